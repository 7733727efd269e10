section
def lsL (i : Int) : List (Option eV) := [some (vr 0), some (vr 1), some (vr 2), some (vi i)]
section E9
variable {b L : Nat} {xs : Nat → Int32} {cells slots : Nat} {σ τ : eS} {i : Int}
theorem lw_c0 (hL : L ≤ 4096) (hi : 0 ≤ i ∧ i + 8 ≤ (L : Int)) (hcs : cells ≤ 600000) (hss : slots ≤ 7302250) (h : JJ i σ τ) (K : ∀ σ' τ', JJ (i + 8) σ' τ' → LOk b L xs cells slots 1333 (lsL i) [] σ' τ') : LOk b L xs cells slots 180 (lsL i) [] σ τ := by
  refine lo_ald (tc0_ok.d 0 rfl rfl) rfl rfl (lo_ald (tc0_ok.d 1 rfl rfl) rfl rfl (lo_ild (tc0_ok.d 2 rfl rfl) rfl rfl (lo_ic (tc0_ok.d 3 rfl rfl) rfl (by decide) (lo_add (tc0_ok.d 4 rfl rfl) rfl ⟨by omega, by omega⟩ (lo_sld (tc0_ok.d 5 rfl rfl) rfl ⟨by omega, by omega⟩ hL (lo_ald (tc0_ok.d 6 rfl rfl) rfl rfl (lo_ild (tc0_ok.d 7 rfl rfl) rfl rfl (lo_ic (tc0_ok.d 8 rfl rfl) rfl (by decide) (lo_add (tc0_ok.d 9 rfl rfl) rfl ⟨by omega, by omega⟩ (lo_sld (tc0_ok.d 10 rfl rfl) rfl ⟨by omega, by omega⟩ hL (lo_ald (tc0_ok.d 11 rfl rfl) rfl rfl (lo_ild (tc0_ok.d 12 rfl rfl) rfl rfl (lo_ic (tc0_ok.d 13 rfl rfl) rfl (by decide) (lo_add (tc0_ok.d 14 rfl rfl) rfl ⟨by omega, by omega⟩ (lo_sld (tc0_ok.d 15 rfl rfl) rfl ⟨by omega, by omega⟩ hL (lo_ald (tc0_ok.d 16 rfl rfl) rfl rfl (lo_ild (tc0_ok.d 17 rfl rfl) rfl rfl (lo_ic (tc0_ok.d 18 rfl rfl) rfl (by decide) (lo_add (tc0_ok.d 19 rfl rfl) rfl ⟨by omega, by omega⟩ (lo_sld (tc0_ok.d 20 rfl rfl) rfl ⟨by omega, by omega⟩ hL (lo_ald (tc0_ok.d 21 rfl rfl) rfl rfl (lo_ild (tc0_ok.d 22 rfl rfl) rfl rfl (lo_ic (tc0_ok.d 23 rfl rfl) rfl (by decide) (lo_add (tc0_ok.d 24 rfl rfl) rfl ⟨by omega, by omega⟩ (lo_sld (tc0_ok.d 25 rfl rfl) rfl ⟨by omega, by omega⟩ hL (lo_cA (M' := M_Ev_feed) [(xs (i + 1).toNat).toInt, (xs (i + 2).toNat).toInt, (xs (i + 3).toNat).toInt, (xs (i + 4).toNat).toInt, (xs (i + 5).toNat).toInt] (tc0_ok.d 26 rfl rfl) rfl ml_L_13 (g_Ev_feed h.1) rfl ⟨Nat.le_of_ble_eq_true rfl, Nat.le_of_ble_eq_true rfl⟩ rfl (Nat.le_of_ble_eq_true rfl) hcs hss (fun _ _ q => Or.inl ⟨q.choose, q.choose_spec.1⟩) ((fun σ' vA qA => ?_))))))))))))))))))))))))))))
  obtain ⟨zA, eA, qA⟩ := qA
  subst eA
  refine lo_pop (tc0_ok.d 27 rfl rfl) rfl rfl (lo_ald (tc0_ok.d 28 rfl rfl) rfl rfl (lo_ald (tc0_ok.d 29 rfl rfl) rfl rfl (lo_ild (tc0_ok.d 30 rfl rfl) rfl rfl (lo_ic (tc0_ok.d 31 rfl rfl) rfl (by decide) (lo_add (tc0_ok.d 32 rfl rfl) rfl ⟨by omega, by omega⟩ (lo_sld (tc0_ok.d 33 rfl rfl) rfl ⟨by omega, by omega⟩ hL (lo_ald (tc0_ok.d 34 rfl rfl) rfl rfl (lo_ild (tc0_ok.d 35 rfl rfl) rfl rfl (lo_ic (tc0_ok.d 36 rfl rfl) rfl (by decide) (lo_add (tc0_ok.d 37 rfl rfl) rfl ⟨by omega, by omega⟩ (lo_sld (tc0_ok.d 38 rfl rfl) rfl ⟨by omega, by omega⟩ hL (lo_ald (tc0_ok.d 39 rfl rfl) rfl rfl (lo_ild (tc0_ok.d 40 rfl rfl) rfl rfl (lo_ic (tc0_ok.d 41 rfl rfl) rfl (by decide) (lo_add (tc0_ok.d 42 rfl rfl) rfl ⟨by omega, by omega⟩ (lo_sld (tc0_ok.d 43 rfl rfl) rfl ⟨by omega, by omega⟩ hL (lo_ald (tc0_ok.d 44 rfl rfl) rfl rfl (lo_ild (tc0_ok.d 45 rfl rfl) rfl rfl (lo_ic (tc0_ok.d 46 rfl rfl) rfl (by decide) (lo_add (tc0_ok.d 47 rfl rfl) rfl ⟨by omega, by omega⟩ (lo_sld (tc0_ok.d 48 rfl rfl) rfl ⟨by omega, by omega⟩ hL (lo_ald (tc0_ok.d 49 rfl rfl) rfl rfl (lo_ild (tc0_ok.d 50 rfl rfl) rfl rfl (lo_ic (tc0_ok.d 51 rfl rfl) rfl (by decide) (lo_add (tc0_ok.d 52 rfl rfl) rfl ⟨by omega, by omega⟩ (lo_sld (tc0_ok.d 53 rfl rfl) rfl ⟨by omega, by omega⟩ hL (lo_cB (M' := M_Mo_feed) [(xs (i + 1).toNat).toInt, (xs (i + 2).toNat).toInt, (xs (i + 3).toNat).toInt, (xs (i + 4).toNat).toInt, (xs (i + 5).toNat).toInt] (tc0_ok.d 54 rfl rfl) rfl ml_L_17 (g_Mo_feed h.2.1) rfl ⟨Nat.le_of_ble_eq_true rfl, Nat.le_of_ble_eq_true rfl⟩ rfl (Nat.le_of_ble_eq_true rfl) hcs hss (fun _ _ q => Or.inl ⟨q.choose, q.choose_spec.1⟩) ((fun τ' vB qB => ?_)))))))))))))))))))))))))))))
  obtain ⟨zB, eB, qB⟩ := qB
  subst eB
  refine lo_pop (tc0_ok.d 55 rfl rfl) rfl rfl (lo_goto (tc0_ok.d 56 rfl rfl) rfl ?_)
  exact K _ _ (j_feed (by omega) h qA qB).1
theorem lw_c1 (hL : L ≤ 4096) (hi : 0 ≤ i ∧ i + 8 ≤ (L : Int)) (hcs : cells ≤ 600000) (hss : slots ≤ 7302250) (h : JJ i σ τ) (K : ∀ σ' τ', JJ (i + 8) σ' τ' → LOk b L xs cells slots 1333 (lsL i) [] σ' τ') : LOk b L xs cells slots 243 (lsL i) [] σ τ := by
  refine lo_ald (tc1_ok.d 0 rfl rfl) rfl rfl (lo_ald (tc1_ok.d 1 rfl rfl) rfl rfl (lo_ild (tc1_ok.d 2 rfl rfl) rfl rfl (lo_ic (tc1_ok.d 3 rfl rfl) rfl (by decide) (lo_add (tc1_ok.d 4 rfl rfl) rfl ⟨by omega, by omega⟩ (lo_sld (tc1_ok.d 5 rfl rfl) rfl ⟨by omega, by omega⟩ hL (lo_cA (M' := M_Ev_end) [(xs (i + 1).toNat).toInt] (tc1_ok.d 6 rfl rfl) rfl ml_L_18 (g_Ev_end h.1) rfl ⟨Nat.le_of_ble_eq_true rfl, Nat.le_of_ble_eq_true rfl⟩ rfl (Nat.le_of_ble_eq_true rfl) hcs hss (fun _ _ q => Or.inl ⟨q.choose, q.choose_spec.1⟩) ((fun σ' vA qA => ?_))))))))
  obtain ⟨zA, eA, qA⟩ := qA
  subst eA
  refine lo_pop (tc1_ok.d 7 rfl rfl) rfl rfl (lo_ald (tc1_ok.d 8 rfl rfl) rfl rfl (lo_ald (tc1_ok.d 9 rfl rfl) rfl rfl (lo_ild (tc1_ok.d 10 rfl rfl) rfl rfl (lo_ic (tc1_ok.d 11 rfl rfl) rfl (by decide) (lo_add (tc1_ok.d 12 rfl rfl) rfl ⟨by omega, by omega⟩ (lo_sld (tc1_ok.d 13 rfl rfl) rfl ⟨by omega, by omega⟩ hL (lo_cB (M' := M_Mo_end) [(xs (i + 1).toNat).toInt] (tc1_ok.d 14 rfl rfl) rfl ml_L_22 (g_Mo_end h.2.1) rfl ⟨Nat.le_of_ble_eq_true rfl, Nat.le_of_ble_eq_true rfl⟩ rfl (Nat.le_of_ble_eq_true rfl) hcs hss (fun _ _ q => Or.inl ⟨q.choose, q.choose_spec.1⟩) ((fun τ' vB qB => ?_)))))))))
  obtain ⟨zB, eB, qB⟩ := qB
  subst eB
  refine lo_pop (tc1_ok.d 15 rfl rfl) rfl rfl (lo_goto (tc1_ok.d 16 rfl rfl) rfl ?_)
  exact K _ _ (j_end (by omega) h qA qB).1
theorem lw_c2 (hL : L ≤ 4096) (hi : 0 ≤ i ∧ i + 8 ≤ (L : Int)) (hcs : cells ≤ 600000) (hss : slots ≤ 7302250) (h : JJ i σ τ) (K : ∀ σ' τ', JJ (i + 8) σ' τ' → LOk b L xs cells slots 1333 (lsL i) [] σ' τ') : LOk b L xs cells slots 266 (lsL i) [] σ τ := by
  refine lo_ald (tc2_ok.d 0 rfl rfl) rfl rfl (lo_ald (tc2_ok.d 1 rfl rfl) rfl rfl (lo_ild (tc2_ok.d 2 rfl rfl) rfl rfl (lo_ic (tc2_ok.d 3 rfl rfl) rfl (by decide) (lo_add (tc2_ok.d 4 rfl rfl) rfl ⟨by omega, by omega⟩ (lo_sld (tc2_ok.d 5 rfl rfl) rfl ⟨by omega, by omega⟩ hL (lo_cA (M' := M_Ev_table) [(xs (i + 1).toNat).toInt] (tc2_ok.d 6 rfl rfl) rfl ml_L_23 (g_Ev_table h.1) rfl ⟨Nat.le_of_ble_eq_true rfl, Nat.le_of_ble_eq_true rfl⟩ rfl (Nat.le_of_ble_eq_true rfl) hcs hss (fun _ _ q => Or.inl ⟨q.choose, q.choose_spec.1⟩) ((fun σ' vA qA => ?_))))))))
  obtain ⟨zA, eA, qA⟩ := qA
  subst eA
  refine lo_pop (tc2_ok.d 7 rfl rfl) rfl rfl (lo_ald (tc2_ok.d 8 rfl rfl) rfl rfl (lo_ald (tc2_ok.d 9 rfl rfl) rfl rfl (lo_ild (tc2_ok.d 10 rfl rfl) rfl rfl (lo_ic (tc2_ok.d 11 rfl rfl) rfl (by decide) (lo_add (tc2_ok.d 12 rfl rfl) rfl ⟨by omega, by omega⟩ (lo_sld (tc2_ok.d 13 rfl rfl) rfl ⟨by omega, by omega⟩ hL (lo_cB (M' := M_Mo_table) [(xs (i + 1).toNat).toInt] (tc2_ok.d 14 rfl rfl) rfl ml_L_27 (g_Mo_table h.iby) rfl ⟨Nat.le_of_ble_eq_true rfl, Nat.le_of_ble_eq_true rfl⟩ rfl (Nat.le_of_ble_eq_true rfl) hcs hss (fun _ _ q => Or.inl ⟨q.choose, q.choose_spec.1⟩) ((fun τ' vB qB => ?_)))))))))
  obtain ⟨zB, eB, qB⟩ := qB
  subst eB
  refine lo_pop (tc2_ok.d 15 rfl rfl) rfl rfl (lo_goto (tc2_ok.d 16 rfl rfl) rfl ?_)
  exact K _ _ (j_table (by omega) h qA qB).1
theorem lw_c3 (hL : L ≤ 4096) (hi : 0 ≤ i ∧ i + 8 ≤ (L : Int)) (hcs : cells ≤ 600000) (hss : slots ≤ 7302250) (h : JJ i σ τ) (K : ∀ σ' τ', JJ (i + 8) σ' τ' → LOk b L xs cells slots 1333 (lsL i) [] σ' τ') : LOk b L xs cells slots 289 (lsL i) [] σ τ := by
  refine lo_ald (tc3_ok.d 0 rfl rfl) rfl rfl (lo_ald (tc3_ok.d 1 rfl rfl) rfl rfl (lo_ild (tc3_ok.d 2 rfl rfl) rfl rfl (lo_ic (tc3_ok.d 3 rfl rfl) rfl (by decide) (lo_add (tc3_ok.d 4 rfl rfl) rfl ⟨by omega, by omega⟩ (lo_sld (tc3_ok.d 5 rfl rfl) rfl ⟨by omega, by omega⟩ hL (lo_cA (M' := M_Ev_fault) [(xs (i + 1).toNat).toInt] (tc3_ok.d 6 rfl rfl) rfl ml_L_28 (g_Ev_fault h.1) rfl ⟨Nat.le_of_ble_eq_true rfl, Nat.le_of_ble_eq_true rfl⟩ rfl (Nat.le_of_ble_eq_true rfl) hcs hss (fun _ _ q => Or.inl ⟨q.choose, q.choose_spec.1⟩) ((fun σ' vA qA => ?_))))))))
  obtain ⟨zA, eA, qA⟩ := qA
  subst eA
  refine lo_pop (tc3_ok.d 7 rfl rfl) rfl rfl (lo_ald (tc3_ok.d 8 rfl rfl) rfl rfl (lo_ald (tc3_ok.d 9 rfl rfl) rfl rfl (lo_ild (tc3_ok.d 10 rfl rfl) rfl rfl (lo_ic (tc3_ok.d 11 rfl rfl) rfl (by decide) (lo_add (tc3_ok.d 12 rfl rfl) rfl ⟨by omega, by omega⟩ (lo_sld (tc3_ok.d 13 rfl rfl) rfl ⟨by omega, by omega⟩ hL (lo_cB (M' := M_Mo_fault) [(xs (i + 1).toNat).toInt] (tc3_ok.d 14 rfl rfl) rfl ml_L_31 (g_Mo_fault h.2.1) rfl ⟨Nat.le_of_ble_eq_true rfl, Nat.le_of_ble_eq_true rfl⟩ rfl (Nat.le_of_ble_eq_true rfl) hcs hss (fun _ _ q => Or.inl ⟨q.choose, q.choose_spec.1⟩) ((fun τ' vB qB => ?_)))))))))
  obtain ⟨zB, eB, qB⟩ := qB
  subst eB
  refine lo_pop (tc3_ok.d 15 rfl rfl) rfl rfl (lo_goto (tc3_ok.d 16 rfl rfl) rfl ?_)
  exact K _ _ (j_fault (by omega) h qA qB).1
theorem lw_c4 (hL : L ≤ 4096) (hi : 0 ≤ i ∧ i + 8 ≤ (L : Int)) (hcs : cells ≤ 600000) (hss : slots ≤ 7302250) (h : JJ i σ τ) (K : ∀ σ' τ', JJ (i + 8) σ' τ' → LOk b L xs cells slots 1333 (lsL i) [] σ' τ') : LOk b L xs cells slots 312 (lsL i) [] σ τ := by
  refine lo_ald (tc4_ok.d 0 rfl rfl) rfl rfl (lo_ald (tc4_ok.d 1 rfl rfl) rfl rfl (lo_ild (tc4_ok.d 2 rfl rfl) rfl rfl (lo_ic (tc4_ok.d 3 rfl rfl) rfl (by decide) (lo_add (tc4_ok.d 4 rfl rfl) rfl ⟨by omega, by omega⟩ (lo_sld (tc4_ok.d 5 rfl rfl) rfl ⟨by omega, by omega⟩ hL (lo_ald (tc4_ok.d 6 rfl rfl) rfl rfl (lo_ild (tc4_ok.d 7 rfl rfl) rfl rfl (lo_ic (tc4_ok.d 8 rfl rfl) rfl (by decide) (lo_add (tc4_ok.d 9 rfl rfl) rfl ⟨by omega, by omega⟩ (lo_sld (tc4_ok.d 10 rfl rfl) rfl ⟨by omega, by omega⟩ hL (lo_cA (M' := M_Ev_look) [(xs (i + 1).toNat).toInt, (xs (i + 2).toNat).toInt] (tc4_ok.d 11 rfl rfl) rfl ml_L_32 (x_Ev_look h.1) rfl ⟨Nat.le_of_ble_eq_true rfl, Nat.le_of_ble_eq_true rfl⟩ rfl (Nat.le_of_ble_eq_true rfl) hcs hss (fun _ _ q => Or.inl ⟨q.choose, q.choose_spec.1⟩) ((fun σ' vA qA => ?_)))))))))))))
  obtain ⟨zA, eA, qA⟩ := qA
  subst eA
  refine lo_ald (tc4_ok.d 12 rfl rfl) rfl rfl (lo_ald (tc4_ok.d 13 rfl rfl) rfl rfl (lo_ild (tc4_ok.d 14 rfl rfl) rfl rfl (lo_ic (tc4_ok.d 15 rfl rfl) rfl (by decide) (lo_add (tc4_ok.d 16 rfl rfl) rfl ⟨by omega, by omega⟩ (lo_sld (tc4_ok.d 17 rfl rfl) rfl ⟨by omega, by omega⟩ hL (lo_ald (tc4_ok.d 18 rfl rfl) rfl rfl (lo_ild (tc4_ok.d 19 rfl rfl) rfl rfl (lo_ic (tc4_ok.d 20 rfl rfl) rfl (by decide) (lo_add (tc4_ok.d 21 rfl rfl) rfl ⟨by omega, by omega⟩ (lo_sld (tc4_ok.d 22 rfl rfl) rfl ⟨by omega, by omega⟩ hL (lo_cB (M' := M_Mo_look) [(xs (i + 1).toNat).toInt, (xs (i + 2).toNat).toInt] (tc4_ok.d 23 rfl rfl) rfl ml_L_36 (x_Mo_look h.2.1) rfl ⟨Nat.le_of_ble_eq_true rfl, Nat.le_of_ble_eq_true rfl⟩ rfl (Nat.le_of_ble_eq_true rfl) hcs hss (fun _ _ q => Or.inl ⟨q.choose, q.choose_spec.1⟩) ((fun τ' vB qB => ?_)))))))))))))
  obtain ⟨zB, eB, qB⟩ := qB
  subst eB
  refine lo_eq (tc4_ok.d 24 rfl rfl) rfl rfl (fun _ => ?_) (fun hne => ?_)
  · exact K _ _ (j_look (by omega) h qA qB).1
  · exact absurd (j_look (by omega) h qA qB).2 hne
theorem lw_c5 (hL : L ≤ 4096) (hi : 0 ≤ i ∧ i + 8 ≤ (L : Int)) (hcs : cells ≤ 600000) (hss : slots ≤ 7302250) (h : JJ i σ τ) (K : ∀ σ' τ', JJ (i + 8) σ' τ' → LOk b L xs cells slots 1333 (lsL i) [] σ' τ') : LOk b L xs cells slots 345 (lsL i) [] σ τ := by
  refine lo_ald (tc5_ok.d 0 rfl rfl) rfl rfl (lo_ald (tc5_ok.d 1 rfl rfl) rfl rfl (lo_ild (tc5_ok.d 2 rfl rfl) rfl rfl (lo_ic (tc5_ok.d 3 rfl rfl) rfl (by decide) (lo_add (tc5_ok.d 4 rfl rfl) rfl ⟨by omega, by omega⟩ (lo_sld (tc5_ok.d 5 rfl rfl) rfl ⟨by omega, by omega⟩ hL (lo_ald (tc5_ok.d 6 rfl rfl) rfl rfl (lo_ild (tc5_ok.d 7 rfl rfl) rfl rfl (lo_ic (tc5_ok.d 8 rfl rfl) rfl (by decide) (lo_add (tc5_ok.d 9 rfl rfl) rfl ⟨by omega, by omega⟩ (lo_sld (tc5_ok.d 10 rfl rfl) rfl ⟨by omega, by omega⟩ hL (lo_ald (tc5_ok.d 11 rfl rfl) rfl rfl (lo_ild (tc5_ok.d 12 rfl rfl) rfl rfl (lo_ic (tc5_ok.d 13 rfl rfl) rfl (by decide) (lo_add (tc5_ok.d 14 rfl rfl) rfl ⟨by omega, by omega⟩ (lo_sld (tc5_ok.d 15 rfl rfl) rfl ⟨by omega, by omega⟩ hL (lo_cA (M' := M_Ev_cell) [(xs (i + 1).toNat).toInt, (xs (i + 2).toNat).toInt, (xs (i + 3).toNat).toInt] (tc5_ok.d 16 rfl rfl) rfl ml_L_37 (g_Ev_cell h.1) rfl ⟨Nat.le_of_ble_eq_true rfl, Nat.le_of_ble_eq_true rfl⟩ rfl (Nat.le_of_ble_eq_true rfl) hcs hss (fun _ _ q => Or.inl ⟨q.choose, q.choose_spec.1⟩) ((fun σ' vA qA => ?_))))))))))))))))))
  obtain ⟨zA, eA, qA⟩ := qA
  subst eA
  refine lo_pop (tc5_ok.d 17 rfl rfl) rfl rfl (lo_ald (tc5_ok.d 18 rfl rfl) rfl rfl (lo_ald (tc5_ok.d 19 rfl rfl) rfl rfl (lo_ild (tc5_ok.d 20 rfl rfl) rfl rfl (lo_ic (tc5_ok.d 21 rfl rfl) rfl (by decide) (lo_add (tc5_ok.d 22 rfl rfl) rfl ⟨by omega, by omega⟩ (lo_sld (tc5_ok.d 23 rfl rfl) rfl ⟨by omega, by omega⟩ hL (lo_ald (tc5_ok.d 24 rfl rfl) rfl rfl (lo_ild (tc5_ok.d 25 rfl rfl) rfl rfl (lo_ic (tc5_ok.d 26 rfl rfl) rfl (by decide) (lo_add (tc5_ok.d 27 rfl rfl) rfl ⟨by omega, by omega⟩ (lo_sld (tc5_ok.d 28 rfl rfl) rfl ⟨by omega, by omega⟩ hL (lo_ald (tc5_ok.d 29 rfl rfl) rfl rfl (lo_ild (tc5_ok.d 30 rfl rfl) rfl rfl (lo_ic (tc5_ok.d 31 rfl rfl) rfl (by decide) (lo_add (tc5_ok.d 32 rfl rfl) rfl ⟨by omega, by omega⟩ (lo_sld (tc5_ok.d 33 rfl rfl) rfl ⟨by omega, by omega⟩ hL (lo_cB (M' := M_Mo_cell) [(xs (i + 1).toNat).toInt, (xs (i + 2).toNat).toInt, (xs (i + 3).toNat).toInt] (tc5_ok.d 34 rfl rfl) rfl ml_L_41 (g_Mo_cell h.2.1) rfl ⟨Nat.le_of_ble_eq_true rfl, Nat.le_of_ble_eq_true rfl⟩ rfl (Nat.le_of_ble_eq_true rfl) hcs hss (fun _ _ q => Or.inl ⟨q.choose, q.choose_spec.1⟩) ((fun τ' vB qB => ?_)))))))))))))))))))
  obtain ⟨zB, eB, qB⟩ := qB
  subst eB
  refine lo_pop (tc5_ok.d 35 rfl rfl) rfl rfl (lo_goto (tc5_ok.d 36 rfl rfl) rfl ?_)
  exact K _ _ (j_cell (by omega) h qA qB).1
theorem lw_c6 (hL : L ≤ 4096) (hi : 0 ≤ i ∧ i + 8 ≤ (L : Int)) (hcs : cells ≤ 600000) (hss : slots ≤ 7302250) (h : JJ i σ τ) (K : ∀ σ' τ', JJ (i + 8) σ' τ' → LOk b L xs cells slots 1333 (lsL i) [] σ' τ') : LOk b L xs cells slots 388 (lsL i) [] σ τ := by
  refine lo_ald (tc6_ok.d 0 rfl rfl) rfl rfl (lo_ald (tc6_ok.d 1 rfl rfl) rfl rfl (lo_ild (tc6_ok.d 2 rfl rfl) rfl rfl (lo_ic (tc6_ok.d 3 rfl rfl) rfl (by decide) (lo_add (tc6_ok.d 4 rfl rfl) rfl ⟨by omega, by omega⟩ (lo_sld (tc6_ok.d 5 rfl rfl) rfl ⟨by omega, by omega⟩ hL (lo_cA (M' := M_Ev_uneven) [(xs (i + 1).toNat).toInt] (tc6_ok.d 6 rfl rfl) rfl ml_L_42 (g_Ev_uneven h.1) rfl ⟨Nat.le_of_ble_eq_true rfl, Nat.le_of_ble_eq_true rfl⟩ rfl (Nat.le_of_ble_eq_true rfl) hcs hss (fun _ _ q => Or.inl ⟨q.choose, q.choose_spec.1⟩) ((fun σ' vA qA => ?_))))))))
  obtain ⟨zA, eA, qA⟩ := qA
  subst eA
  refine lo_pop (tc6_ok.d 7 rfl rfl) rfl rfl (lo_ald (tc6_ok.d 8 rfl rfl) rfl rfl (lo_ald (tc6_ok.d 9 rfl rfl) rfl rfl (lo_ild (tc6_ok.d 10 rfl rfl) rfl rfl (lo_ic (tc6_ok.d 11 rfl rfl) rfl (by decide) (lo_add (tc6_ok.d 12 rfl rfl) rfl ⟨by omega, by omega⟩ (lo_sld (tc6_ok.d 13 rfl rfl) rfl ⟨by omega, by omega⟩ hL (lo_cB (M' := M_Mo_uneven) [(xs (i + 1).toNat).toInt] (tc6_ok.d 14 rfl rfl) rfl ml_L_45 (g_Mo_uneven h.2.1) rfl ⟨Nat.le_of_ble_eq_true rfl, Nat.le_of_ble_eq_true rfl⟩ rfl (Nat.le_of_ble_eq_true rfl) hcs hss (fun _ _ q => Or.inl ⟨q.choose, q.choose_spec.1⟩) ((fun τ' vB qB => ?_)))))))))
  obtain ⟨zB, eB, qB⟩ := qB
  subst eB
  refine lo_pop (tc6_ok.d 15 rfl rfl) rfl rfl (lo_goto (tc6_ok.d 16 rfl rfl) rfl ?_)
  exact K _ _ (j_uneven (by omega) h qA qB).1
theorem lw_c7 (hL : L ≤ 4096) (hi : 0 ≤ i ∧ i + 8 ≤ (L : Int)) (hcs : cells ≤ 600000) (hss : slots ≤ 7302250) (h : JJ i σ τ) (K : ∀ σ' τ', JJ (i + 8) σ' τ' → LOk b L xs cells slots 1333 (lsL i) [] σ' τ') : LOk b L xs cells slots 411 (lsL i) [] σ τ := by
  refine lo_ald (tc7_ok.d 0 rfl rfl) rfl rfl (lo_ald (tc7_ok.d 1 rfl rfl) rfl rfl (lo_ild (tc7_ok.d 2 rfl rfl) rfl rfl (lo_ic (tc7_ok.d 3 rfl rfl) rfl (by decide) (lo_add (tc7_ok.d 4 rfl rfl) rfl ⟨by omega, by omega⟩ (lo_sld (tc7_ok.d 5 rfl rfl) rfl ⟨by omega, by omega⟩ hL (lo_ald (tc7_ok.d 6 rfl rfl) rfl rfl (lo_ild (tc7_ok.d 7 rfl rfl) rfl rfl (lo_ic (tc7_ok.d 8 rfl rfl) rfl (by decide) (lo_add (tc7_ok.d 9 rfl rfl) rfl ⟨by omega, by omega⟩ (lo_sld (tc7_ok.d 10 rfl rfl) rfl ⟨by omega, by omega⟩ hL (lo_ald (tc7_ok.d 11 rfl rfl) rfl rfl (lo_ild (tc7_ok.d 12 rfl rfl) rfl rfl (lo_ic (tc7_ok.d 13 rfl rfl) rfl (by decide) (lo_add (tc7_ok.d 14 rfl rfl) rfl ⟨by omega, by omega⟩ (lo_sld (tc7_ok.d 15 rfl rfl) rfl ⟨by omega, by omega⟩ hL (lo_ald (tc7_ok.d 16 rfl rfl) rfl rfl (lo_ild (tc7_ok.d 17 rfl rfl) rfl rfl (lo_ic (tc7_ok.d 18 rfl rfl) rfl (by decide) (lo_add (tc7_ok.d 19 rfl rfl) rfl ⟨by omega, by omega⟩ (lo_sld (tc7_ok.d 20 rfl rfl) rfl ⟨by omega, by omega⟩ hL (lo_ald (tc7_ok.d 21 rfl rfl) rfl rfl (lo_ild (tc7_ok.d 22 rfl rfl) rfl rfl (lo_ic (tc7_ok.d 23 rfl rfl) rfl (by decide) (lo_add (tc7_ok.d 24 rfl rfl) rfl ⟨by omega, by omega⟩ (lo_sld (tc7_ok.d 25 rfl rfl) rfl ⟨by omega, by omega⟩ hL (lo_ald (tc7_ok.d 26 rfl rfl) rfl rfl (lo_ild (tc7_ok.d 27 rfl rfl) rfl rfl (lo_bp (tc7_ok.d 28 rfl rfl) rfl (by decide) (by decide) (lo_add (tc7_ok.d 29 rfl rfl) rfl ⟨by omega, by omega⟩ (lo_sld (tc7_ok.d 30 rfl rfl) rfl ⟨by omega, by omega⟩ hL (lo_ald (tc7_ok.d 31 rfl rfl) rfl rfl (lo_ild (tc7_ok.d 32 rfl rfl) rfl rfl (lo_bp (tc7_ok.d 33 rfl rfl) rfl (by decide) (by decide) (lo_add (tc7_ok.d 34 rfl rfl) rfl ⟨by omega, by omega⟩ (lo_sld (tc7_ok.d 35 rfl rfl) rfl ⟨by omega, by omega⟩ hL (lo_cA (M' := M_Ev_mix) [(xs (i + 1).toNat).toInt, (xs (i + 2).toNat).toInt, (xs (i + 3).toNat).toInt, (xs (i + 4).toNat).toInt, (xs (i + 5).toNat).toInt, (xs (i + 6).toNat).toInt, (xs (i + 7).toNat).toInt] (tc7_ok.d 36 rfl rfl) rfl ml_L_46 (g_Ev_mix h.1) rfl ⟨Nat.le_of_ble_eq_true rfl, Nat.le_of_ble_eq_true rfl⟩ rfl (Nat.le_of_ble_eq_true rfl) hcs hss (fun _ _ q => Or.inl ⟨q.choose, q.choose_spec.1⟩) ((fun σ' vA qA => ?_))))))))))))))))))))))))))))))))))))))
  obtain ⟨zA, eA, qA⟩ := qA
  subst eA
  refine lo_pop (tc7_ok.d 37 rfl rfl) rfl rfl (lo_ald (tc7_ok.d 38 rfl rfl) rfl rfl (lo_ald (tc7_ok.d 39 rfl rfl) rfl rfl (lo_ild (tc7_ok.d 40 rfl rfl) rfl rfl (lo_ic (tc7_ok.d 41 rfl rfl) rfl (by decide) (lo_add (tc7_ok.d 42 rfl rfl) rfl ⟨by omega, by omega⟩ (lo_sld (tc7_ok.d 43 rfl rfl) rfl ⟨by omega, by omega⟩ hL (lo_ald (tc7_ok.d 44 rfl rfl) rfl rfl (lo_ild (tc7_ok.d 45 rfl rfl) rfl rfl (lo_ic (tc7_ok.d 46 rfl rfl) rfl (by decide) (lo_add (tc7_ok.d 47 rfl rfl) rfl ⟨by omega, by omega⟩ (lo_sld (tc7_ok.d 48 rfl rfl) rfl ⟨by omega, by omega⟩ hL (lo_ald (tc7_ok.d 49 rfl rfl) rfl rfl (lo_ild (tc7_ok.d 50 rfl rfl) rfl rfl (lo_ic (tc7_ok.d 51 rfl rfl) rfl (by decide) (lo_add (tc7_ok.d 52 rfl rfl) rfl ⟨by omega, by omega⟩ (lo_sld (tc7_ok.d 53 rfl rfl) rfl ⟨by omega, by omega⟩ hL (lo_ald (tc7_ok.d 54 rfl rfl) rfl rfl (lo_ild (tc7_ok.d 55 rfl rfl) rfl rfl (lo_ic (tc7_ok.d 56 rfl rfl) rfl (by decide) (lo_add (tc7_ok.d 57 rfl rfl) rfl ⟨by omega, by omega⟩ (lo_sld (tc7_ok.d 58 rfl rfl) rfl ⟨by omega, by omega⟩ hL (lo_ald (tc7_ok.d 59 rfl rfl) rfl rfl (lo_ild (tc7_ok.d 60 rfl rfl) rfl rfl (lo_ic (tc7_ok.d 61 rfl rfl) rfl (by decide) (lo_add (tc7_ok.d 62 rfl rfl) rfl ⟨by omega, by omega⟩ (lo_sld (tc7_ok.d 63 rfl rfl) rfl ⟨by omega, by omega⟩ hL (lo_ald (tc7_ok.d 64 rfl rfl) rfl rfl (lo_ild (tc7_ok.d 65 rfl rfl) rfl rfl (lo_bp (tc7_ok.d 66 rfl rfl) rfl (by decide) (by decide) (lo_add (tc7_ok.d 67 rfl rfl) rfl ⟨by omega, by omega⟩ (lo_sld (tc7_ok.d 68 rfl rfl) rfl ⟨by omega, by omega⟩ hL (lo_ald (tc7_ok.d 69 rfl rfl) rfl rfl (lo_ild (tc7_ok.d 70 rfl rfl) rfl rfl (lo_bp (tc7_ok.d 71 rfl rfl) rfl (by decide) (by decide) (lo_add (tc7_ok.d 72 rfl rfl) rfl ⟨by omega, by omega⟩ (lo_sld (tc7_ok.d 73 rfl rfl) rfl ⟨by omega, by omega⟩ hL (lo_cB (M' := M_Mo_mix) [(xs (i + 1).toNat).toInt, (xs (i + 2).toNat).toInt, (xs (i + 3).toNat).toInt, (xs (i + 4).toNat).toInt, (xs (i + 5).toNat).toInt, (xs (i + 6).toNat).toInt, (xs (i + 7).toNat).toInt] (tc7_ok.d 74 rfl rfl) rfl ml_L_50 (g_Mo_mix h.2.1) rfl ⟨Nat.le_of_ble_eq_true rfl, Nat.le_of_ble_eq_true rfl⟩ rfl (Nat.le_of_ble_eq_true rfl) hcs hss (fun _ _ q => Or.inl ⟨q.choose, q.choose_spec.1⟩) ((fun τ' vB qB => ?_)))))))))))))))))))))))))))))))))))))))
  obtain ⟨zB, eB, qB⟩ := qB
  subst eB
  refine lo_pop (tc7_ok.d 75 rfl rfl) rfl rfl (lo_goto (tc7_ok.d 76 rfl rfl) rfl ?_)
  exact K _ _ (j_mix (by omega) h qA qB).1
theorem lw_c8 (hL : L ≤ 4096) (hi : 0 ≤ i ∧ i + 8 ≤ (L : Int)) (hcs : cells ≤ 600000) (hss : slots ≤ 7302250) (h : JJ i σ τ) (K : ∀ σ' τ', JJ (i + 8) σ' τ' → LOk b L xs cells slots 1333 (lsL i) [] σ' τ') : LOk b L xs cells slots 498 (lsL i) [] σ τ := by
  refine lo_ald (tc8_ok.d 0 rfl rfl) rfl rfl (lo_ald (tc8_ok.d 1 rfl rfl) rfl rfl (lo_ild (tc8_ok.d 2 rfl rfl) rfl rfl (lo_ic (tc8_ok.d 3 rfl rfl) rfl (by decide) (lo_add (tc8_ok.d 4 rfl rfl) rfl ⟨by omega, by omega⟩ (lo_sld (tc8_ok.d 5 rfl rfl) rfl ⟨by omega, by omega⟩ hL (lo_ald (tc8_ok.d 6 rfl rfl) rfl rfl (lo_ild (tc8_ok.d 7 rfl rfl) rfl rfl (lo_ic (tc8_ok.d 8 rfl rfl) rfl (by decide) (lo_add (tc8_ok.d 9 rfl rfl) rfl ⟨by omega, by omega⟩ (lo_sld (tc8_ok.d 10 rfl rfl) rfl ⟨by omega, by omega⟩ hL (lo_ald (tc8_ok.d 11 rfl rfl) rfl rfl (lo_ild (tc8_ok.d 12 rfl rfl) rfl rfl (lo_ic (tc8_ok.d 13 rfl rfl) rfl (by decide) (lo_add (tc8_ok.d 14 rfl rfl) rfl ⟨by omega, by omega⟩ (lo_sld (tc8_ok.d 15 rfl rfl) rfl ⟨by omega, by omega⟩ hL (lo_cA (M' := M_Ev_times) [(xs (i + 1).toNat).toInt, (xs (i + 2).toNat).toInt, (xs (i + 3).toNat).toInt] (tc8_ok.d 16 rfl rfl) rfl ml_L_51 (g_Ev_times h.1) rfl ⟨Nat.le_of_ble_eq_true rfl, Nat.le_of_ble_eq_true rfl⟩ rfl (Nat.le_of_ble_eq_true rfl) hcs hss (fun _ _ q => Or.inl ⟨q.choose, q.choose_spec.1⟩) ((fun σ' vA qA => ?_))))))))))))))))))
  obtain ⟨zA, eA, qA⟩ := qA
  subst eA
  refine lo_pop (tc8_ok.d 17 rfl rfl) rfl rfl (lo_ald (tc8_ok.d 18 rfl rfl) rfl rfl (lo_ald (tc8_ok.d 19 rfl rfl) rfl rfl (lo_ild (tc8_ok.d 20 rfl rfl) rfl rfl (lo_ic (tc8_ok.d 21 rfl rfl) rfl (by decide) (lo_add (tc8_ok.d 22 rfl rfl) rfl ⟨by omega, by omega⟩ (lo_sld (tc8_ok.d 23 rfl rfl) rfl ⟨by omega, by omega⟩ hL (lo_ald (tc8_ok.d 24 rfl rfl) rfl rfl (lo_ild (tc8_ok.d 25 rfl rfl) rfl rfl (lo_ic (tc8_ok.d 26 rfl rfl) rfl (by decide) (lo_add (tc8_ok.d 27 rfl rfl) rfl ⟨by omega, by omega⟩ (lo_sld (tc8_ok.d 28 rfl rfl) rfl ⟨by omega, by omega⟩ hL (lo_ald (tc8_ok.d 29 rfl rfl) rfl rfl (lo_ild (tc8_ok.d 30 rfl rfl) rfl rfl (lo_ic (tc8_ok.d 31 rfl rfl) rfl (by decide) (lo_add (tc8_ok.d 32 rfl rfl) rfl ⟨by omega, by omega⟩ (lo_sld (tc8_ok.d 33 rfl rfl) rfl ⟨by omega, by omega⟩ hL (lo_cB (M' := M_Mo_times) [(xs (i + 1).toNat).toInt, (xs (i + 2).toNat).toInt, (xs (i + 3).toNat).toInt] (tc8_ok.d 34 rfl rfl) rfl ml_L_55 (g_Mo_times h.2.1) rfl ⟨Nat.le_of_ble_eq_true rfl, Nat.le_of_ble_eq_true rfl⟩ rfl (Nat.le_of_ble_eq_true rfl) hcs hss (fun _ _ q => Or.inl ⟨q.choose, q.choose_spec.1⟩) ((fun τ' vB qB => ?_)))))))))))))))))))
  obtain ⟨zB, eB, qB⟩ := qB
  subst eB
  refine lo_pop (tc8_ok.d 35 rfl rfl) rfl rfl (lo_goto (tc8_ok.d 36 rfl rfl) rfl ?_)
  exact K _ _ (j_times (by omega) h qA qB).1
theorem lw_c9 (hL : L ≤ 4096) (hi : 0 ≤ i ∧ i + 8 ≤ (L : Int)) (hcs : cells ≤ 600000) (hss : slots ≤ 7302250) (h : JJ i σ τ) (K : ∀ σ' τ', JJ (i + 8) σ' τ' → LOk b L xs cells slots 1333 (lsL i) [] σ' τ') : LOk b L xs cells slots 541 (lsL i) [] σ τ := by
  refine lo_ald (tc9_ok.d 0 rfl rfl) rfl rfl (lo_ald (tc9_ok.d 1 rfl rfl) rfl rfl (lo_ild (tc9_ok.d 2 rfl rfl) rfl rfl (lo_ic (tc9_ok.d 3 rfl rfl) rfl (by decide) (lo_add (tc9_ok.d 4 rfl rfl) rfl ⟨by omega, by omega⟩ (lo_sld (tc9_ok.d 5 rfl rfl) rfl ⟨by omega, by omega⟩ hL (lo_ald (tc9_ok.d 6 rfl rfl) rfl rfl (lo_ild (tc9_ok.d 7 rfl rfl) rfl rfl (lo_ic (tc9_ok.d 8 rfl rfl) rfl (by decide) (lo_add (tc9_ok.d 9 rfl rfl) rfl ⟨by omega, by omega⟩ (lo_sld (tc9_ok.d 10 rfl rfl) rfl ⟨by omega, by omega⟩ hL (lo_ald (tc9_ok.d 11 rfl rfl) rfl rfl (lo_ild (tc9_ok.d 12 rfl rfl) rfl rfl (lo_ic (tc9_ok.d 13 rfl rfl) rfl (by decide) (lo_add (tc9_ok.d 14 rfl rfl) rfl ⟨by omega, by omega⟩ (lo_sld (tc9_ok.d 15 rfl rfl) rfl ⟨by omega, by omega⟩ hL (lo_ald (tc9_ok.d 16 rfl rfl) rfl rfl (lo_ild (tc9_ok.d 17 rfl rfl) rfl rfl (lo_ic (tc9_ok.d 18 rfl rfl) rfl (by decide) (lo_add (tc9_ok.d 19 rfl rfl) rfl ⟨by omega, by omega⟩ (lo_sld (tc9_ok.d 20 rfl rfl) rfl ⟨by omega, by omega⟩ hL (lo_cA (M' := M_Ev_turn) [(xs (i + 1).toNat).toInt, (xs (i + 2).toNat).toInt, (xs (i + 3).toNat).toInt, (xs (i + 4).toNat).toInt] (tc9_ok.d 21 rfl rfl) rfl ml_L_56 (g_Ev_turn h.1) rfl ⟨Nat.le_of_ble_eq_true rfl, Nat.le_of_ble_eq_true rfl⟩ rfl (Nat.le_of_ble_eq_true rfl) hcs hss (fun _ _ q => Or.inl ⟨q.choose, q.choose_spec.1⟩) ((fun σ' vA qA => ?_)))))))))))))))))))))))
  obtain ⟨zA, eA, qA⟩ := qA
  subst eA
  refine lo_pop (tc9_ok.d 22 rfl rfl) rfl rfl (lo_ald (tc9_ok.d 23 rfl rfl) rfl rfl (lo_ald (tc9_ok.d 24 rfl rfl) rfl rfl (lo_ild (tc9_ok.d 25 rfl rfl) rfl rfl (lo_ic (tc9_ok.d 26 rfl rfl) rfl (by decide) (lo_add (tc9_ok.d 27 rfl rfl) rfl ⟨by omega, by omega⟩ (lo_sld (tc9_ok.d 28 rfl rfl) rfl ⟨by omega, by omega⟩ hL (lo_ald (tc9_ok.d 29 rfl rfl) rfl rfl (lo_ild (tc9_ok.d 30 rfl rfl) rfl rfl (lo_ic (tc9_ok.d 31 rfl rfl) rfl (by decide) (lo_add (tc9_ok.d 32 rfl rfl) rfl ⟨by omega, by omega⟩ (lo_sld (tc9_ok.d 33 rfl rfl) rfl ⟨by omega, by omega⟩ hL (lo_ald (tc9_ok.d 34 rfl rfl) rfl rfl (lo_ild (tc9_ok.d 35 rfl rfl) rfl rfl (lo_ic (tc9_ok.d 36 rfl rfl) rfl (by decide) (lo_add (tc9_ok.d 37 rfl rfl) rfl ⟨by omega, by omega⟩ (lo_sld (tc9_ok.d 38 rfl rfl) rfl ⟨by omega, by omega⟩ hL (lo_ald (tc9_ok.d 39 rfl rfl) rfl rfl (lo_ild (tc9_ok.d 40 rfl rfl) rfl rfl (lo_ic (tc9_ok.d 41 rfl rfl) rfl (by decide) (lo_add (tc9_ok.d 42 rfl rfl) rfl ⟨by omega, by omega⟩ (lo_sld (tc9_ok.d 43 rfl rfl) rfl ⟨by omega, by omega⟩ hL (lo_cB (M' := M_Mo_turn) [(xs (i + 1).toNat).toInt, (xs (i + 2).toNat).toInt, (xs (i + 3).toNat).toInt, (xs (i + 4).toNat).toInt] (tc9_ok.d 44 rfl rfl) rfl ml_L_60 (g_Mo_turn h.2.1) rfl ⟨Nat.le_of_ble_eq_true rfl, Nat.le_of_ble_eq_true rfl⟩ rfl (Nat.le_of_ble_eq_true rfl) hcs hss (fun _ _ q => Or.inl ⟨q.choose, q.choose_spec.1⟩) ((fun τ' vB qB => ?_))))))))))))))))))))))))
  obtain ⟨zB, eB, qB⟩ := qB
  subst eB
  refine lo_pop (tc9_ok.d 45 rfl rfl) rfl rfl (lo_goto (tc9_ok.d 46 rfl rfl) rfl ?_)
  exact K _ _ (j_turn (by omega) h qA qB).1
theorem lw_c10 (hL : L ≤ 4096) (hi : 0 ≤ i ∧ i + 8 ≤ (L : Int)) (hcs : cells ≤ 600000) (hss : slots ≤ 7302250) (h : JJ i σ τ) (K : ∀ σ' τ', JJ (i + 8) σ' τ' → LOk b L xs cells slots 1333 (lsL i) [] σ' τ') : LOk b L xs cells slots 594 (lsL i) [] σ τ := by
  refine lo_ald (tc10_ok.d 0 rfl rfl) rfl rfl (lo_ald (tc10_ok.d 1 rfl rfl) rfl rfl (lo_ild (tc10_ok.d 2 rfl rfl) rfl rfl (lo_ic (tc10_ok.d 3 rfl rfl) rfl (by decide) (lo_add (tc10_ok.d 4 rfl rfl) rfl ⟨by omega, by omega⟩ (lo_sld (tc10_ok.d 5 rfl rfl) rfl ⟨by omega, by omega⟩ hL (lo_ald (tc10_ok.d 6 rfl rfl) rfl rfl (lo_ild (tc10_ok.d 7 rfl rfl) rfl rfl (lo_ic (tc10_ok.d 8 rfl rfl) rfl (by decide) (lo_add (tc10_ok.d 9 rfl rfl) rfl ⟨by omega, by omega⟩ (lo_sld (tc10_ok.d 10 rfl rfl) rfl ⟨by omega, by omega⟩ hL (lo_cA (M' := M_Ev_peel) [(xs (i + 1).toNat).toInt, (xs (i + 2).toNat).toInt] (tc10_ok.d 11 rfl rfl) rfl ml_L_61 (g_Ev_peel (h.pe (by omega))) rfl ⟨Nat.le_of_ble_eq_true rfl, Nat.le_of_ble_eq_true rfl⟩ rfl (Nat.le_of_ble_eq_true rfl) hcs hss (fun _ _ q => Or.inl ⟨q.choose, q.choose_spec.1⟩) ((fun σ' vA qA => ?_)))))))))))))
  obtain ⟨zA, eA, qA⟩ := qA
  subst eA
  refine lo_pop (tc10_ok.d 12 rfl rfl) rfl rfl (lo_ald (tc10_ok.d 13 rfl rfl) rfl rfl (lo_ald (tc10_ok.d 14 rfl rfl) rfl rfl (lo_ild (tc10_ok.d 15 rfl rfl) rfl rfl (lo_ic (tc10_ok.d 16 rfl rfl) rfl (by decide) (lo_add (tc10_ok.d 17 rfl rfl) rfl ⟨by omega, by omega⟩ (lo_sld (tc10_ok.d 18 rfl rfl) rfl ⟨by omega, by omega⟩ hL (lo_ald (tc10_ok.d 19 rfl rfl) rfl rfl (lo_ild (tc10_ok.d 20 rfl rfl) rfl rfl (lo_ic (tc10_ok.d 21 rfl rfl) rfl (by decide) (lo_add (tc10_ok.d 22 rfl rfl) rfl ⟨by omega, by omega⟩ (lo_sld (tc10_ok.d 23 rfl rfl) rfl ⟨by omega, by omega⟩ hL (lo_cB (M' := M_Mo_peel) [(xs (i + 1).toNat).toInt, (xs (i + 2).toNat).toInt] (tc10_ok.d 24 rfl rfl) rfl ml_L_64 (g_Mo_peel h.2.1) rfl ⟨Nat.le_of_ble_eq_true rfl, Nat.le_of_ble_eq_true rfl⟩ rfl (Nat.le_of_ble_eq_true rfl) hcs hss (fun _ _ q => Or.inl ⟨q.choose, q.choose_spec.1⟩) ((fun τ' vB qB => ?_))))))))))))))
  obtain ⟨zB, eB, qB⟩ := qB
  subst eB
  refine lo_pop (tc10_ok.d 25 rfl rfl) rfl rfl (lo_goto (tc10_ok.d 26 rfl rfl) rfl ?_)
  exact K _ _ (j_peel (by omega) h qA qB).1
theorem lw_c11 (hL : L ≤ 4096) (hi : 0 ≤ i ∧ i + 8 ≤ (L : Int)) (hcs : cells ≤ 600000) (hss : slots ≤ 7302250) (h : JJ i σ τ) (K : ∀ σ' τ', JJ (i + 8) σ' τ' → LOk b L xs cells slots 1333 (lsL i) [] σ' τ') : LOk b L xs cells slots 627 (lsL i) [] σ τ := by
  refine lo_ald (tc11_ok.d 0 rfl rfl) rfl rfl (lo_ald (tc11_ok.d 1 rfl rfl) rfl rfl (lo_ild (tc11_ok.d 2 rfl rfl) rfl rfl (lo_ic (tc11_ok.d 3 rfl rfl) rfl (by decide) (lo_add (tc11_ok.d 4 rfl rfl) rfl ⟨by omega, by omega⟩ (lo_sld (tc11_ok.d 5 rfl rfl) rfl ⟨by omega, by omega⟩ hL (lo_ald (tc11_ok.d 6 rfl rfl) rfl rfl (lo_ild (tc11_ok.d 7 rfl rfl) rfl rfl (lo_ic (tc11_ok.d 8 rfl rfl) rfl (by decide) (lo_add (tc11_ok.d 9 rfl rfl) rfl ⟨by omega, by omega⟩ (lo_sld (tc11_ok.d 10 rfl rfl) rfl ⟨by omega, by omega⟩ hL (lo_cA (M' := M_Ev_part) [(xs (i + 1).toNat).toInt, (xs (i + 2).toNat).toInt] (tc11_ok.d 11 rfl rfl) rfl ml_L_65 (g_Ev_part h.1) rfl ⟨Nat.le_of_ble_eq_true rfl, Nat.le_of_ble_eq_true rfl⟩ rfl (Nat.le_of_ble_eq_true rfl) hcs hss (fun _ _ q => Or.inl ⟨q.choose, q.choose_spec.1⟩) ((fun σ' vA qA => ?_)))))))))))))
  obtain ⟨zA, eA, qA⟩ := qA
  subst eA
  refine lo_pop (tc11_ok.d 12 rfl rfl) rfl rfl (lo_ald (tc11_ok.d 13 rfl rfl) rfl rfl (lo_ald (tc11_ok.d 14 rfl rfl) rfl rfl (lo_ild (tc11_ok.d 15 rfl rfl) rfl rfl (lo_ic (tc11_ok.d 16 rfl rfl) rfl (by decide) (lo_add (tc11_ok.d 17 rfl rfl) rfl ⟨by omega, by omega⟩ (lo_sld (tc11_ok.d 18 rfl rfl) rfl ⟨by omega, by omega⟩ hL (lo_ald (tc11_ok.d 19 rfl rfl) rfl rfl (lo_ild (tc11_ok.d 20 rfl rfl) rfl rfl (lo_ic (tc11_ok.d 21 rfl rfl) rfl (by decide) (lo_add (tc11_ok.d 22 rfl rfl) rfl ⟨by omega, by omega⟩ (lo_sld (tc11_ok.d 23 rfl rfl) rfl ⟨by omega, by omega⟩ hL (lo_cB (M' := M_Mo_part) [(xs (i + 1).toNat).toInt, (xs (i + 2).toNat).toInt] (tc11_ok.d 24 rfl rfl) rfl ml_L_68 (g_Mo_part h.2.1) rfl ⟨Nat.le_of_ble_eq_true rfl, Nat.le_of_ble_eq_true rfl⟩ rfl (Nat.le_of_ble_eq_true rfl) hcs hss (fun _ _ q => Or.inl ⟨q.choose, q.choose_spec.1⟩) ((fun τ' vB qB => ?_))))))))))))))
  obtain ⟨zB, eB, qB⟩ := qB
  subst eB
  refine lo_pop (tc11_ok.d 25 rfl rfl) rfl rfl (lo_goto (tc11_ok.d 26 rfl rfl) rfl ?_)
  exact K _ _ (j_part (by omega) h qA qB).1
theorem lw_c12 (hL : L ≤ 4096) (hi : 0 ≤ i ∧ i + 8 ≤ (L : Int)) (hcs : cells ≤ 600000) (hss : slots ≤ 7302250) (h : JJ i σ τ) (K : ∀ σ' τ', JJ (i + 8) σ' τ' → LOk b L xs cells slots 1333 (lsL i) [] σ' τ') : LOk b L xs cells slots 660 (lsL i) [] σ τ := by
  refine lo_ald (tc12_ok.d 0 rfl rfl) rfl rfl (lo_ald (tc12_ok.d 1 rfl rfl) rfl rfl (lo_ild (tc12_ok.d 2 rfl rfl) rfl rfl (lo_ic (tc12_ok.d 3 rfl rfl) rfl (by decide) (lo_add (tc12_ok.d 4 rfl rfl) rfl ⟨by omega, by omega⟩ (lo_sld (tc12_ok.d 5 rfl rfl) rfl ⟨by omega, by omega⟩ hL (lo_ald (tc12_ok.d 6 rfl rfl) rfl rfl (lo_ild (tc12_ok.d 7 rfl rfl) rfl rfl (lo_ic (tc12_ok.d 8 rfl rfl) rfl (by decide) (lo_add (tc12_ok.d 9 rfl rfl) rfl ⟨by omega, by omega⟩ (lo_sld (tc12_ok.d 10 rfl rfl) rfl ⟨by omega, by omega⟩ hL (lo_cA (M' := M_Ev_weight) [(xs (i + 1).toNat).toInt, (xs (i + 2).toNat).toInt] (tc12_ok.d 11 rfl rfl) rfl ml_L_69 (g_Ev_weight h.1) rfl ⟨Nat.le_of_ble_eq_true rfl, Nat.le_of_ble_eq_true rfl⟩ rfl (Nat.le_of_ble_eq_true rfl) hcs hss (fun _ _ q => Or.inl ⟨q.choose, q.choose_spec.1⟩) ((fun σ' vA qA => ?_)))))))))))))
  obtain ⟨zA, eA, qA⟩ := qA
  subst eA
  refine lo_pop (tc12_ok.d 12 rfl rfl) rfl rfl (lo_ald (tc12_ok.d 13 rfl rfl) rfl rfl (lo_ald (tc12_ok.d 14 rfl rfl) rfl rfl (lo_ild (tc12_ok.d 15 rfl rfl) rfl rfl (lo_ic (tc12_ok.d 16 rfl rfl) rfl (by decide) (lo_add (tc12_ok.d 17 rfl rfl) rfl ⟨by omega, by omega⟩ (lo_sld (tc12_ok.d 18 rfl rfl) rfl ⟨by omega, by omega⟩ hL (lo_ald (tc12_ok.d 19 rfl rfl) rfl rfl (lo_ild (tc12_ok.d 20 rfl rfl) rfl rfl (lo_ic (tc12_ok.d 21 rfl rfl) rfl (by decide) (lo_add (tc12_ok.d 22 rfl rfl) rfl ⟨by omega, by omega⟩ (lo_sld (tc12_ok.d 23 rfl rfl) rfl ⟨by omega, by omega⟩ hL (lo_cB (M' := M_Mo_weight) [(xs (i + 1).toNat).toInt, (xs (i + 2).toNat).toInt] (tc12_ok.d 24 rfl rfl) rfl ml_L_72 (g_Mo_weight h.2.1) rfl ⟨Nat.le_of_ble_eq_true rfl, Nat.le_of_ble_eq_true rfl⟩ rfl (Nat.le_of_ble_eq_true rfl) hcs hss (fun _ _ q => Or.inl ⟨q.choose, q.choose_spec.1⟩) ((fun τ' vB qB => ?_))))))))))))))
  obtain ⟨zB, eB, qB⟩ := qB
  subst eB
  refine lo_pop (tc12_ok.d 25 rfl rfl) rfl rfl (lo_goto (tc12_ok.d 26 rfl rfl) rfl ?_)
  exact K _ _ (j_weight (by omega) h qA qB).1
theorem lw_c13 (hL : L ≤ 4096) (hi : 0 ≤ i ∧ i + 8 ≤ (L : Int)) (hcs : cells ≤ 600000) (hss : slots ≤ 7302250) (h : JJ i σ τ) (K : ∀ σ' τ', JJ (i + 8) σ' τ' → LOk b L xs cells slots 1333 (lsL i) [] σ' τ') : LOk b L xs cells slots 693 (lsL i) [] σ τ := by
  refine lo_ald (tc13_ok.d 0 rfl rfl) rfl rfl (lo_ald (tc13_ok.d 1 rfl rfl) rfl rfl (lo_ild (tc13_ok.d 2 rfl rfl) rfl rfl (lo_ic (tc13_ok.d 3 rfl rfl) rfl (by decide) (lo_add (tc13_ok.d 4 rfl rfl) rfl ⟨by omega, by omega⟩ (lo_sld (tc13_ok.d 5 rfl rfl) rfl ⟨by omega, by omega⟩ hL (lo_cA (M' := M_Ev_draw) [(xs (i + 1).toNat).toInt] (tc13_ok.d 6 rfl rfl) rfl ml_L_73 (g_Ev_draw h.1) rfl ⟨Nat.le_of_ble_eq_true rfl, Nat.le_of_ble_eq_true rfl⟩ rfl (Nat.le_of_ble_eq_true rfl) hcs hss (fun _ _ q => Or.inl ⟨q.choose, q.choose_spec.1⟩) ((fun σ' vA qA => ?_))))))))
  obtain ⟨zA, eA, qA⟩ := qA
  subst eA
  refine lo_pop (tc13_ok.d 7 rfl rfl) rfl rfl (lo_ald (tc13_ok.d 8 rfl rfl) rfl rfl (lo_ald (tc13_ok.d 9 rfl rfl) rfl rfl (lo_ild (tc13_ok.d 10 rfl rfl) rfl rfl (lo_ic (tc13_ok.d 11 rfl rfl) rfl (by decide) (lo_add (tc13_ok.d 12 rfl rfl) rfl ⟨by omega, by omega⟩ (lo_sld (tc13_ok.d 13 rfl rfl) rfl ⟨by omega, by omega⟩ hL (lo_cB (M' := M_Mo_draw) [(xs (i + 1).toNat).toInt] (tc13_ok.d 14 rfl rfl) rfl ml_L_76 (g_Mo_draw h.2.1) rfl ⟨Nat.le_of_ble_eq_true rfl, Nat.le_of_ble_eq_true rfl⟩ rfl (Nat.le_of_ble_eq_true rfl) hcs hss (fun _ _ q => Or.inl ⟨q.choose, q.choose_spec.1⟩) ((fun τ' vB qB => ?_)))))))))
  obtain ⟨zB, eB, qB⟩ := qB
  subst eB
  refine lo_pop (tc13_ok.d 15 rfl rfl) rfl rfl (lo_goto (tc13_ok.d 16 rfl rfl) rfl ?_)
  exact K _ _ (j_draw (by omega) h qA qB).1
theorem lw_c14 (hL : L ≤ 4096) (hi : 0 ≤ i ∧ i + 8 ≤ (L : Int)) (hcs : cells ≤ 600000) (hss : slots ≤ 7302250) (h : JJ i σ τ) (K : ∀ σ' τ', JJ (i + 8) σ' τ' → LOk b L xs cells slots 1333 (lsL i) [] σ' τ') : LOk b L xs cells slots 716 (lsL i) [] σ τ := by
  refine lo_ald (tc14_ok.d 0 rfl rfl) rfl rfl (lo_ald (tc14_ok.d 1 rfl rfl) rfl rfl (lo_ild (tc14_ok.d 2 rfl rfl) rfl rfl (lo_ic (tc14_ok.d 3 rfl rfl) rfl (by decide) (lo_add (tc14_ok.d 4 rfl rfl) rfl ⟨by omega, by omega⟩ (lo_sld (tc14_ok.d 5 rfl rfl) rfl ⟨by omega, by omega⟩ hL (lo_ald (tc14_ok.d 6 rfl rfl) rfl rfl (lo_ild (tc14_ok.d 7 rfl rfl) rfl rfl (lo_ic (tc14_ok.d 8 rfl rfl) rfl (by decide) (lo_add (tc14_ok.d 9 rfl rfl) rfl ⟨by omega, by omega⟩ (lo_sld (tc14_ok.d 10 rfl rfl) rfl ⟨by omega, by omega⟩ hL (lo_ald (tc14_ok.d 11 rfl rfl) rfl rfl (lo_ild (tc14_ok.d 12 rfl rfl) rfl rfl (lo_ic (tc14_ok.d 13 rfl rfl) rfl (by decide) (lo_add (tc14_ok.d 14 rfl rfl) rfl ⟨by omega, by omega⟩ (lo_sld (tc14_ok.d 15 rfl rfl) rfl ⟨by omega, by omega⟩ hL (lo_ald (tc14_ok.d 16 rfl rfl) rfl rfl (lo_ild (tc14_ok.d 17 rfl rfl) rfl rfl (lo_ic (tc14_ok.d 18 rfl rfl) rfl (by decide) (lo_add (tc14_ok.d 19 rfl rfl) rfl ⟨by omega, by omega⟩ (lo_sld (tc14_ok.d 20 rfl rfl) rfl ⟨by omega, by omega⟩ hL (lo_ald (tc14_ok.d 21 rfl rfl) rfl rfl (lo_ild (tc14_ok.d 22 rfl rfl) rfl rfl (lo_ic (tc14_ok.d 23 rfl rfl) rfl (by decide) (lo_add (tc14_ok.d 24 rfl rfl) rfl ⟨by omega, by omega⟩ (lo_sld (tc14_ok.d 25 rfl rfl) rfl ⟨by omega, by omega⟩ hL (lo_cA (M' := M_Ev_joint) [(xs (i + 1).toNat).toInt, (xs (i + 2).toNat).toInt, (xs (i + 3).toNat).toInt, (xs (i + 4).toNat).toInt, (xs (i + 5).toNat).toInt] (tc14_ok.d 26 rfl rfl) rfl ml_L_77 (g_Ev_joint h.1) rfl ⟨Nat.le_of_ble_eq_true rfl, Nat.le_of_ble_eq_true rfl⟩ rfl (Nat.le_of_ble_eq_true rfl) hcs hss (fun _ _ q => Or.inl ⟨q.choose, q.choose_spec.1⟩) ((fun σ' vA qA => ?_))))))))))))))))))))))))))))
  obtain ⟨zA, eA, qA⟩ := qA
  subst eA
  refine lo_pop (tc14_ok.d 27 rfl rfl) rfl rfl (lo_ald (tc14_ok.d 28 rfl rfl) rfl rfl (lo_ald (tc14_ok.d 29 rfl rfl) rfl rfl (lo_ild (tc14_ok.d 30 rfl rfl) rfl rfl (lo_ic (tc14_ok.d 31 rfl rfl) rfl (by decide) (lo_add (tc14_ok.d 32 rfl rfl) rfl ⟨by omega, by omega⟩ (lo_sld (tc14_ok.d 33 rfl rfl) rfl ⟨by omega, by omega⟩ hL (lo_ald (tc14_ok.d 34 rfl rfl) rfl rfl (lo_ild (tc14_ok.d 35 rfl rfl) rfl rfl (lo_ic (tc14_ok.d 36 rfl rfl) rfl (by decide) (lo_add (tc14_ok.d 37 rfl rfl) rfl ⟨by omega, by omega⟩ (lo_sld (tc14_ok.d 38 rfl rfl) rfl ⟨by omega, by omega⟩ hL (lo_ald (tc14_ok.d 39 rfl rfl) rfl rfl (lo_ild (tc14_ok.d 40 rfl rfl) rfl rfl (lo_ic (tc14_ok.d 41 rfl rfl) rfl (by decide) (lo_add (tc14_ok.d 42 rfl rfl) rfl ⟨by omega, by omega⟩ (lo_sld (tc14_ok.d 43 rfl rfl) rfl ⟨by omega, by omega⟩ hL (lo_ald (tc14_ok.d 44 rfl rfl) rfl rfl (lo_ild (tc14_ok.d 45 rfl rfl) rfl rfl (lo_ic (tc14_ok.d 46 rfl rfl) rfl (by decide) (lo_add (tc14_ok.d 47 rfl rfl) rfl ⟨by omega, by omega⟩ (lo_sld (tc14_ok.d 48 rfl rfl) rfl ⟨by omega, by omega⟩ hL (lo_ald (tc14_ok.d 49 rfl rfl) rfl rfl (lo_ild (tc14_ok.d 50 rfl rfl) rfl rfl (lo_ic (tc14_ok.d 51 rfl rfl) rfl (by decide) (lo_add (tc14_ok.d 52 rfl rfl) rfl ⟨by omega, by omega⟩ (lo_sld (tc14_ok.d 53 rfl rfl) rfl ⟨by omega, by omega⟩ hL (lo_cB (M' := M_Mo_joint) [(xs (i + 1).toNat).toInt, (xs (i + 2).toNat).toInt, (xs (i + 3).toNat).toInt, (xs (i + 4).toNat).toInt, (xs (i + 5).toNat).toInt] (tc14_ok.d 54 rfl rfl) rfl ml_L_80 (g_Mo_joint h.2.1) rfl ⟨Nat.le_of_ble_eq_true rfl, Nat.le_of_ble_eq_true rfl⟩ rfl (Nat.le_of_ble_eq_true rfl) hcs hss (fun _ _ q => Or.inl ⟨q.choose, q.choose_spec.1⟩) ((fun τ' vB qB => ?_)))))))))))))))))))))))))))))
  obtain ⟨zB, eB, qB⟩ := qB
  subst eB
  refine lo_pop (tc14_ok.d 55 rfl rfl) rfl rfl (lo_goto (tc14_ok.d 56 rfl rfl) rfl ?_)
  exact K _ _ (j_joint (by omega) h qA qB).1
theorem lw_c15 (hL : L ≤ 4096) (hi : 0 ≤ i ∧ i + 8 ≤ (L : Int)) (hcs : cells ≤ 600000) (hss : slots ≤ 7302250) (h : JJ i σ τ) (K : ∀ σ' τ', JJ (i + 8) σ' τ' → LOk b L xs cells slots 1333 (lsL i) [] σ' τ') : LOk b L xs cells slots 779 (lsL i) [] σ τ := by
  refine lo_ald (tc15_ok.d 0 rfl rfl) rfl rfl (lo_ald (tc15_ok.d 1 rfl rfl) rfl rfl (lo_ild (tc15_ok.d 2 rfl rfl) rfl rfl (lo_ic (tc15_ok.d 3 rfl rfl) rfl (by decide) (lo_add (tc15_ok.d 4 rfl rfl) rfl ⟨by omega, by omega⟩ (lo_sld (tc15_ok.d 5 rfl rfl) rfl ⟨by omega, by omega⟩ hL (lo_ald (tc15_ok.d 6 rfl rfl) rfl rfl (lo_ild (tc15_ok.d 7 rfl rfl) rfl rfl (lo_ic (tc15_ok.d 8 rfl rfl) rfl (by decide) (lo_add (tc15_ok.d 9 rfl rfl) rfl ⟨by omega, by omega⟩ (lo_sld (tc15_ok.d 10 rfl rfl) rfl ⟨by omega, by omega⟩ hL (lo_cA (M' := M_Ev_bound) [(xs (i + 1).toNat).toInt, (xs (i + 2).toNat).toInt] (tc15_ok.d 11 rfl rfl) rfl ml_L_81 (g_Ev_bound h.1) rfl ⟨Nat.le_of_ble_eq_true rfl, Nat.le_of_ble_eq_true rfl⟩ rfl (Nat.le_of_ble_eq_true rfl) hcs hss (fun _ _ q => Or.inl ⟨q.choose, q.choose_spec.1⟩) ((fun σ' vA qA => ?_)))))))))))))
  obtain ⟨zA, eA, qA⟩ := qA
  subst eA
  refine lo_pop (tc15_ok.d 12 rfl rfl) rfl rfl (lo_ald (tc15_ok.d 13 rfl rfl) rfl rfl (lo_ald (tc15_ok.d 14 rfl rfl) rfl rfl (lo_ild (tc15_ok.d 15 rfl rfl) rfl rfl (lo_ic (tc15_ok.d 16 rfl rfl) rfl (by decide) (lo_add (tc15_ok.d 17 rfl rfl) rfl ⟨by omega, by omega⟩ (lo_sld (tc15_ok.d 18 rfl rfl) rfl ⟨by omega, by omega⟩ hL (lo_ald (tc15_ok.d 19 rfl rfl) rfl rfl (lo_ild (tc15_ok.d 20 rfl rfl) rfl rfl (lo_ic (tc15_ok.d 21 rfl rfl) rfl (by decide) (lo_add (tc15_ok.d 22 rfl rfl) rfl ⟨by omega, by omega⟩ (lo_sld (tc15_ok.d 23 rfl rfl) rfl ⟨by omega, by omega⟩ hL (lo_cB (M' := M_Mo_bound) [(xs (i + 1).toNat).toInt, (xs (i + 2).toNat).toInt] (tc15_ok.d 24 rfl rfl) rfl ml_L_84 (g_Mo_bound h.2.1) rfl ⟨Nat.le_of_ble_eq_true rfl, Nat.le_of_ble_eq_true rfl⟩ rfl (Nat.le_of_ble_eq_true rfl) hcs hss (fun _ _ q => Or.inl ⟨q.choose, q.choose_spec.1⟩) ((fun τ' vB qB => ?_))))))))))))))
  obtain ⟨zB, eB, qB⟩ := qB
  subst eB
  refine lo_pop (tc15_ok.d 25 rfl rfl) rfl rfl (lo_goto (tc15_ok.d 26 rfl rfl) rfl ?_)
  exact K _ _ (j_keep (by omega) h qA qB)
theorem lw_c16 (hL : L ≤ 4096) (hi : 0 ≤ i ∧ i + 8 ≤ (L : Int)) (hcs : cells ≤ 600000) (hss : slots ≤ 7302250) (h : JJ i σ τ) (K : ∀ σ' τ', JJ (i + 8) σ' τ' → LOk b L xs cells slots 1333 (lsL i) [] σ' τ') : LOk b L xs cells slots 812 (lsL i) [] σ τ := by
  refine lo_ald (tc16_ok.d 0 rfl rfl) rfl rfl (lo_ald (tc16_ok.d 1 rfl rfl) rfl rfl (lo_ild (tc16_ok.d 2 rfl rfl) rfl rfl (lo_ic (tc16_ok.d 3 rfl rfl) rfl (by decide) (lo_add (tc16_ok.d 4 rfl rfl) rfl ⟨by omega, by omega⟩ (lo_sld (tc16_ok.d 5 rfl rfl) rfl ⟨by omega, by omega⟩ hL (lo_ald (tc16_ok.d 6 rfl rfl) rfl rfl (lo_ild (tc16_ok.d 7 rfl rfl) rfl rfl (lo_ic (tc16_ok.d 8 rfl rfl) rfl (by decide) (lo_add (tc16_ok.d 9 rfl rfl) rfl ⟨by omega, by omega⟩ (lo_sld (tc16_ok.d 10 rfl rfl) rfl ⟨by omega, by omega⟩ hL (lo_ald (tc16_ok.d 11 rfl rfl) rfl rfl (lo_ild (tc16_ok.d 12 rfl rfl) rfl rfl (lo_ic (tc16_ok.d 13 rfl rfl) rfl (by decide) (lo_add (tc16_ok.d 14 rfl rfl) rfl ⟨by omega, by omega⟩ (lo_sld (tc16_ok.d 15 rfl rfl) rfl ⟨by omega, by omega⟩ hL (lo_cA (M' := M_Ev_lack) [(xs (i + 1).toNat).toInt, (xs (i + 2).toNat).toInt, (xs (i + 3).toNat).toInt] (tc16_ok.d 16 rfl rfl) rfl ml_L_85 (g_Ev_lack h.1) rfl ⟨Nat.le_of_ble_eq_true rfl, Nat.le_of_ble_eq_true rfl⟩ rfl (Nat.le_of_ble_eq_true rfl) hcs hss (fun _ _ q => Or.inl ⟨q.choose, q.choose_spec.1⟩) ((fun σ' vA qA => ?_))))))))))))))))))
  obtain ⟨zA, eA, qA⟩ := qA
  subst eA
  refine lo_pop (tc16_ok.d 17 rfl rfl) rfl rfl (lo_ald (tc16_ok.d 18 rfl rfl) rfl rfl (lo_ald (tc16_ok.d 19 rfl rfl) rfl rfl (lo_ild (tc16_ok.d 20 rfl rfl) rfl rfl (lo_ic (tc16_ok.d 21 rfl rfl) rfl (by decide) (lo_add (tc16_ok.d 22 rfl rfl) rfl ⟨by omega, by omega⟩ (lo_sld (tc16_ok.d 23 rfl rfl) rfl ⟨by omega, by omega⟩ hL (lo_ald (tc16_ok.d 24 rfl rfl) rfl rfl (lo_ild (tc16_ok.d 25 rfl rfl) rfl rfl (lo_ic (tc16_ok.d 26 rfl rfl) rfl (by decide) (lo_add (tc16_ok.d 27 rfl rfl) rfl ⟨by omega, by omega⟩ (lo_sld (tc16_ok.d 28 rfl rfl) rfl ⟨by omega, by omega⟩ hL (lo_ald (tc16_ok.d 29 rfl rfl) rfl rfl (lo_ild (tc16_ok.d 30 rfl rfl) rfl rfl (lo_ic (tc16_ok.d 31 rfl rfl) rfl (by decide) (lo_add (tc16_ok.d 32 rfl rfl) rfl ⟨by omega, by omega⟩ (lo_sld (tc16_ok.d 33 rfl rfl) rfl ⟨by omega, by omega⟩ hL (lo_cB (M' := M_Mo_lack) [(xs (i + 1).toNat).toInt, (xs (i + 2).toNat).toInt, (xs (i + 3).toNat).toInt] (tc16_ok.d 34 rfl rfl) rfl ml_L_88 (g_Mo_lack h.2.1) rfl ⟨Nat.le_of_ble_eq_true rfl, Nat.le_of_ble_eq_true rfl⟩ rfl (Nat.le_of_ble_eq_true rfl) hcs hss (fun _ _ q => Or.inl ⟨q.choose, q.choose_spec.1⟩) ((fun τ' vB qB => ?_)))))))))))))))))))
  obtain ⟨zB, eB, qB⟩ := qB
  subst eB
  refine lo_pop (tc16_ok.d 35 rfl rfl) rfl rfl (lo_goto (tc16_ok.d 36 rfl rfl) rfl ?_)
  exact K _ _ (j_lack (by omega) h qA qB).1
theorem lw_c17 (hL : L ≤ 4096) (hi : 0 ≤ i ∧ i + 8 ≤ (L : Int)) (hcs : cells ≤ 600000) (hss : slots ≤ 7302250) (h : JJ i σ τ) (K : ∀ σ' τ', JJ (i + 8) σ' τ' → LOk b L xs cells slots 1333 (lsL i) [] σ' τ') : LOk b L xs cells slots 855 (lsL i) [] σ τ := by
  refine lo_ald (tc17_ok.d 0 rfl rfl) rfl rfl (lo_ald (tc17_ok.d 1 rfl rfl) rfl rfl (lo_ild (tc17_ok.d 2 rfl rfl) rfl rfl (lo_ic (tc17_ok.d 3 rfl rfl) rfl (by decide) (lo_add (tc17_ok.d 4 rfl rfl) rfl ⟨by omega, by omega⟩ (lo_sld (tc17_ok.d 5 rfl rfl) rfl ⟨by omega, by omega⟩ hL (lo_ald (tc17_ok.d 6 rfl rfl) rfl rfl (lo_ild (tc17_ok.d 7 rfl rfl) rfl rfl (lo_ic (tc17_ok.d 8 rfl rfl) rfl (by decide) (lo_add (tc17_ok.d 9 rfl rfl) rfl ⟨by omega, by omega⟩ (lo_sld (tc17_ok.d 10 rfl rfl) rfl ⟨by omega, by omega⟩ hL (lo_ald (tc17_ok.d 11 rfl rfl) rfl rfl (lo_ild (tc17_ok.d 12 rfl rfl) rfl rfl (lo_ic (tc17_ok.d 13 rfl rfl) rfl (by decide) (lo_add (tc17_ok.d 14 rfl rfl) rfl ⟨by omega, by omega⟩ (lo_sld (tc17_ok.d 15 rfl rfl) rfl ⟨by omega, by omega⟩ hL (lo_cA (M' := M_Ev_paired) [(xs (i + 1).toNat).toInt, (xs (i + 2).toNat).toInt, (xs (i + 3).toNat).toInt] (tc17_ok.d 16 rfl rfl) rfl ml_L_89 (g_Ev_paired (h.pe (by omega))) rfl ⟨Nat.le_of_ble_eq_true rfl, Nat.le_of_ble_eq_true rfl⟩ rfl (Nat.le_of_ble_eq_true rfl) hcs hss (fun _ _ q => Or.inl ⟨q.choose, q.choose_spec.1⟩) ((fun σ' vA qA => ?_))))))))))))))))))
  obtain ⟨zA, eA, qA⟩ := qA
  subst eA
  refine lo_pop (tc17_ok.d 17 rfl rfl) rfl rfl (lo_ald (tc17_ok.d 18 rfl rfl) rfl rfl (lo_ald (tc17_ok.d 19 rfl rfl) rfl rfl (lo_ild (tc17_ok.d 20 rfl rfl) rfl rfl (lo_ic (tc17_ok.d 21 rfl rfl) rfl (by decide) (lo_add (tc17_ok.d 22 rfl rfl) rfl ⟨by omega, by omega⟩ (lo_sld (tc17_ok.d 23 rfl rfl) rfl ⟨by omega, by omega⟩ hL (lo_ald (tc17_ok.d 24 rfl rfl) rfl rfl (lo_ild (tc17_ok.d 25 rfl rfl) rfl rfl (lo_ic (tc17_ok.d 26 rfl rfl) rfl (by decide) (lo_add (tc17_ok.d 27 rfl rfl) rfl ⟨by omega, by omega⟩ (lo_sld (tc17_ok.d 28 rfl rfl) rfl ⟨by omega, by omega⟩ hL (lo_ald (tc17_ok.d 29 rfl rfl) rfl rfl (lo_ild (tc17_ok.d 30 rfl rfl) rfl rfl (lo_ic (tc17_ok.d 31 rfl rfl) rfl (by decide) (lo_add (tc17_ok.d 32 rfl rfl) rfl ⟨by omega, by omega⟩ (lo_sld (tc17_ok.d 33 rfl rfl) rfl ⟨by omega, by omega⟩ hL (lo_cB (M' := M_Mo_paired) [(xs (i + 1).toNat).toInt, (xs (i + 2).toNat).toInt, (xs (i + 3).toNat).toInt] (tc17_ok.d 34 rfl rfl) rfl ml_L_92 (g_Mo_paired h.2.1) rfl ⟨Nat.le_of_ble_eq_true rfl, Nat.le_of_ble_eq_true rfl⟩ rfl (Nat.le_of_ble_eq_true rfl) hcs hss (fun _ _ q => Or.inl ⟨q.choose, q.choose_spec.1⟩) ((fun τ' vB qB => ?_)))))))))))))))))))
  obtain ⟨zB, eB, qB⟩ := qB
  subst eB
  refine lo_pop (tc17_ok.d 35 rfl rfl) rfl rfl (lo_goto (tc17_ok.d 36 rfl rfl) rfl ?_)
  exact K _ _ (j_paired (by omega) h qA qB).1
theorem lw_c18 (hL : L ≤ 4096) (hi : 0 ≤ i ∧ i + 8 ≤ (L : Int)) (hcs : cells ≤ 600000) (hss : slots ≤ 7302250) (h : JJ i σ τ) (K : ∀ σ' τ', JJ (i + 8) σ' τ' → LOk b L xs cells slots 1333 (lsL i) [] σ' τ') : LOk b L xs cells slots 898 (lsL i) [] σ τ := by
  refine lo_ald (tc18_ok.d 0 rfl rfl) rfl rfl (lo_ald (tc18_ok.d 1 rfl rfl) rfl rfl (lo_ild (tc18_ok.d 2 rfl rfl) rfl rfl (lo_ic (tc18_ok.d 3 rfl rfl) rfl (by decide) (lo_add (tc18_ok.d 4 rfl rfl) rfl ⟨by omega, by omega⟩ (lo_sld (tc18_ok.d 5 rfl rfl) rfl ⟨by omega, by omega⟩ hL (lo_ald (tc18_ok.d 6 rfl rfl) rfl rfl (lo_ild (tc18_ok.d 7 rfl rfl) rfl rfl (lo_ic (tc18_ok.d 8 rfl rfl) rfl (by decide) (lo_add (tc18_ok.d 9 rfl rfl) rfl ⟨by omega, by omega⟩ (lo_sld (tc18_ok.d 10 rfl rfl) rfl ⟨by omega, by omega⟩ hL (lo_cA (M' := M_Ev_ways) [(xs (i + 1).toNat).toInt, (xs (i + 2).toNat).toInt] (tc18_ok.d 11 rfl rfl) rfl ml_L_93 (g_Ev_ways h.1) rfl ⟨Nat.le_of_ble_eq_true rfl, Nat.le_of_ble_eq_true rfl⟩ rfl (Nat.le_of_ble_eq_true rfl) hcs hss (fun _ _ q => Or.inl ⟨q.choose, q.choose_spec.1⟩) ((fun σ' vA qA => ?_)))))))))))))
  obtain ⟨zA, eA, qA⟩ := qA
  subst eA
  refine lo_pop (tc18_ok.d 12 rfl rfl) rfl rfl (lo_ald (tc18_ok.d 13 rfl rfl) rfl rfl (lo_ald (tc18_ok.d 14 rfl rfl) rfl rfl (lo_ild (tc18_ok.d 15 rfl rfl) rfl rfl (lo_ic (tc18_ok.d 16 rfl rfl) rfl (by decide) (lo_add (tc18_ok.d 17 rfl rfl) rfl ⟨by omega, by omega⟩ (lo_sld (tc18_ok.d 18 rfl rfl) rfl ⟨by omega, by omega⟩ hL (lo_ald (tc18_ok.d 19 rfl rfl) rfl rfl (lo_ild (tc18_ok.d 20 rfl rfl) rfl rfl (lo_ic (tc18_ok.d 21 rfl rfl) rfl (by decide) (lo_add (tc18_ok.d 22 rfl rfl) rfl ⟨by omega, by omega⟩ (lo_sld (tc18_ok.d 23 rfl rfl) rfl ⟨by omega, by omega⟩ hL (lo_cB (M' := M_Mo_ways) [(xs (i + 1).toNat).toInt, (xs (i + 2).toNat).toInt] (tc18_ok.d 24 rfl rfl) rfl ml_L_96 (g_Mo_ways h.2.1) rfl ⟨Nat.le_of_ble_eq_true rfl, Nat.le_of_ble_eq_true rfl⟩ rfl (Nat.le_of_ble_eq_true rfl) hcs hss (fun _ _ q => Or.inl ⟨q.choose, q.choose_spec.1⟩) ((fun τ' vB qB => ?_))))))))))))))
  obtain ⟨zB, eB, qB⟩ := qB
  subst eB
  refine lo_pop (tc18_ok.d 25 rfl rfl) rfl rfl (lo_goto (tc18_ok.d 26 rfl rfl) rfl ?_)
  exact K _ _ (j_ways (by omega) h qA qB).1
theorem lw_c19 (hL : L ≤ 4096) (hi : 0 ≤ i ∧ i + 8 ≤ (L : Int)) (hcs : cells ≤ 600000) (hss : slots ≤ 7302250) (h : JJ i σ τ) (K : ∀ σ' τ', JJ (i + 8) σ' τ' → LOk b L xs cells slots 1333 (lsL i) [] σ' τ') : LOk b L xs cells slots 931 (lsL i) [] σ τ := by
  refine lo_ald (tc19_ok.d 0 rfl rfl) rfl rfl (lo_ald (tc19_ok.d 1 rfl rfl) rfl rfl (lo_ild (tc19_ok.d 2 rfl rfl) rfl rfl (lo_ic (tc19_ok.d 3 rfl rfl) rfl (by decide) (lo_add (tc19_ok.d 4 rfl rfl) rfl ⟨by omega, by omega⟩ (lo_sld (tc19_ok.d 5 rfl rfl) rfl ⟨by omega, by omega⟩ hL (lo_cA (M' := M_Ev_widest) [(xs (i + 1).toNat).toInt] (tc19_ok.d 6 rfl rfl) rfl ml_L_97 (g_Ev_widest h.1) rfl ⟨Nat.le_of_ble_eq_true rfl, Nat.le_of_ble_eq_true rfl⟩ rfl (Nat.le_of_ble_eq_true rfl) hcs hss (fun _ _ q => Or.inl ⟨q.choose, q.choose_spec.1⟩) ((fun σ' vA qA => ?_))))))))
  obtain ⟨zA, eA, qA⟩ := qA
  subst eA
  refine lo_pop (tc19_ok.d 7 rfl rfl) rfl rfl (lo_ald (tc19_ok.d 8 rfl rfl) rfl rfl (lo_ald (tc19_ok.d 9 rfl rfl) rfl rfl (lo_ild (tc19_ok.d 10 rfl rfl) rfl rfl (lo_ic (tc19_ok.d 11 rfl rfl) rfl (by decide) (lo_add (tc19_ok.d 12 rfl rfl) rfl ⟨by omega, by omega⟩ (lo_sld (tc19_ok.d 13 rfl rfl) rfl ⟨by omega, by omega⟩ hL (lo_cB (M' := M_Mo_widest) [(xs (i + 1).toNat).toInt] (tc19_ok.d 14 rfl rfl) rfl ml_L_100 (g_Mo_widest h.2.1) rfl ⟨Nat.le_of_ble_eq_true rfl, Nat.le_of_ble_eq_true rfl⟩ rfl (Nat.le_of_ble_eq_true rfl) hcs hss (fun _ _ q => Or.inl ⟨q.choose, q.choose_spec.1⟩) ((fun τ' vB qB => ?_)))))))))
  obtain ⟨zB, eB, qB⟩ := qB
  subst eB
  refine lo_pop (tc19_ok.d 15 rfl rfl) rfl rfl (lo_goto (tc19_ok.d 16 rfl rfl) rfl ?_)
  exact K _ _ (j_widest (by omega) h qA qB).1
theorem lw_c20 (hL : L ≤ 4096) (hi : 0 ≤ i ∧ i + 8 ≤ (L : Int)) (hcs : cells ≤ 600000) (hss : slots ≤ 7302250) (h : JJ i σ τ) (K : ∀ σ' τ', JJ (i + 8) σ' τ' → LOk b L xs cells slots 1333 (lsL i) [] σ' τ') : LOk b L xs cells slots 954 (lsL i) [] σ τ := by
  refine lo_ald (tc20_ok.d 0 rfl rfl) rfl rfl (lo_ald (tc20_ok.d 1 rfl rfl) rfl rfl (lo_ild (tc20_ok.d 2 rfl rfl) rfl rfl (lo_ic (tc20_ok.d 3 rfl rfl) rfl (by decide) (lo_add (tc20_ok.d 4 rfl rfl) rfl ⟨by omega, by omega⟩ (lo_sld (tc20_ok.d 5 rfl rfl) rfl ⟨by omega, by omega⟩ hL (lo_ald (tc20_ok.d 6 rfl rfl) rfl rfl (lo_ild (tc20_ok.d 7 rfl rfl) rfl rfl (lo_ic (tc20_ok.d 8 rfl rfl) rfl (by decide) (lo_add (tc20_ok.d 9 rfl rfl) rfl ⟨by omega, by omega⟩ (lo_sld (tc20_ok.d 10 rfl rfl) rfl ⟨by omega, by omega⟩ hL (lo_cA (M' := M_Ev_best) [(xs (i + 1).toNat).toInt, (xs (i + 2).toNat).toInt] (tc20_ok.d 11 rfl rfl) rfl ml_L_101 (g_Ev_best h.1) rfl ⟨Nat.le_of_ble_eq_true rfl, Nat.le_of_ble_eq_true rfl⟩ rfl (Nat.le_of_ble_eq_true rfl) hcs hss (fun _ _ q => Or.inr ⟨q.choose, q.choose_spec.1⟩) ((fun σ' vA qA => ?_)))))))))))))
  obtain ⟨zA, eA, qA⟩ := qA
  subst eA
  refine lo_pop2 (tc20_ok.d 12 rfl rfl) rfl (lo_ald (tc20_ok.d 13 rfl rfl) rfl rfl (lo_ald (tc20_ok.d 14 rfl rfl) rfl rfl (lo_ild (tc20_ok.d 15 rfl rfl) rfl rfl (lo_ic (tc20_ok.d 16 rfl rfl) rfl (by decide) (lo_add (tc20_ok.d 17 rfl rfl) rfl ⟨by omega, by omega⟩ (lo_sld (tc20_ok.d 18 rfl rfl) rfl ⟨by omega, by omega⟩ hL (lo_ald (tc20_ok.d 19 rfl rfl) rfl rfl (lo_ild (tc20_ok.d 20 rfl rfl) rfl rfl (lo_ic (tc20_ok.d 21 rfl rfl) rfl (by decide) (lo_add (tc20_ok.d 22 rfl rfl) rfl ⟨by omega, by omega⟩ (lo_sld (tc20_ok.d 23 rfl rfl) rfl ⟨by omega, by omega⟩ hL (lo_cB (M' := M_Mo_best) [(xs (i + 1).toNat).toInt, (xs (i + 2).toNat).toInt] (tc20_ok.d 24 rfl rfl) rfl ml_L_105 (g_Mo_best h.2.1) rfl ⟨Nat.le_of_ble_eq_true rfl, Nat.le_of_ble_eq_true rfl⟩ rfl (Nat.le_of_ble_eq_true rfl) hcs hss (fun _ _ q => Or.inr ⟨q.choose, q.choose_spec.1⟩) ((fun τ' vB qB => ?_))))))))))))))
  obtain ⟨zB, eB, qB⟩ := qB
  subst eB
  refine lo_pop2 (tc20_ok.d 25 rfl rfl) rfl (lo_goto (tc20_ok.d 26 rfl rfl) rfl ?_)
  exact K _ _ (j_best (by omega) h qA qB).1
theorem lw_c21 (hL : L ≤ 4096) (hi : 0 ≤ i ∧ i + 8 ≤ (L : Int)) (hcs : cells ≤ 600000) (hss : slots ≤ 7302250) (h : JJ i σ τ) (K : ∀ σ' τ', JJ (i + 8) σ' τ' → LOk b L xs cells slots 1333 (lsL i) [] σ' τ') : LOk b L xs cells slots 987 (lsL i) [] σ τ := by
  refine lo_ald (tc21_ok.d 0 rfl rfl) rfl rfl (lo_ald (tc21_ok.d 1 rfl rfl) rfl rfl (lo_ild (tc21_ok.d 2 rfl rfl) rfl rfl (lo_ic (tc21_ok.d 3 rfl rfl) rfl (by decide) (lo_add (tc21_ok.d 4 rfl rfl) rfl ⟨by omega, by omega⟩ (lo_sld (tc21_ok.d 5 rfl rfl) rfl ⟨by omega, by omega⟩ hL (lo_cA (M' := M_Ev_permanent) [(xs (i + 1).toNat).toInt] (tc21_ok.d 6 rfl rfl) rfl ml_L_106 (g_Ev_permanent h.1) rfl ⟨Nat.le_of_ble_eq_true rfl, Nat.le_of_ble_eq_true rfl⟩ rfl (Nat.le_of_ble_eq_true rfl) hcs hss (fun _ _ q => Or.inr ⟨q.choose, q.choose_spec.1⟩) ((fun σ' vA qA => ?_))))))))
  obtain ⟨zA, eA, qA⟩ := qA
  subst eA
  refine lo_pop2 (tc21_ok.d 7 rfl rfl) rfl (lo_ald (tc21_ok.d 8 rfl rfl) rfl rfl (lo_ald (tc21_ok.d 9 rfl rfl) rfl rfl (lo_ild (tc21_ok.d 10 rfl rfl) rfl rfl (lo_ic (tc21_ok.d 11 rfl rfl) rfl (by decide) (lo_add (tc21_ok.d 12 rfl rfl) rfl ⟨by omega, by omega⟩ (lo_sld (tc21_ok.d 13 rfl rfl) rfl ⟨by omega, by omega⟩ hL (lo_cB (M' := M_Mo_permanent) [(xs (i + 1).toNat).toInt] (tc21_ok.d 14 rfl rfl) rfl ml_L_110 (g_Mo_permanent h.2.1) rfl ⟨Nat.le_of_ble_eq_true rfl, Nat.le_of_ble_eq_true rfl⟩ rfl (Nat.le_of_ble_eq_true rfl) hcs hss (fun _ _ q => Or.inr ⟨q.choose, q.choose_spec.1⟩) ((fun τ' vB qB => ?_)))))))))
  obtain ⟨zB, eB, qB⟩ := qB
  subst eB
  refine lo_pop2 (tc21_ok.d 15 rfl rfl) rfl (lo_goto (tc21_ok.d 16 rfl rfl) rfl ?_)
  exact K _ _ (j_permanent (by omega) h qA qB).1
theorem lw_c22 (hL : L ≤ 4096) (hi : 0 ≤ i ∧ i + 8 ≤ (L : Int)) (hcs : cells ≤ 600000) (hss : slots ≤ 7302250) (h : JJ i σ τ) (K : ∀ σ' τ', JJ (i + 8) σ' τ' → LOk b L xs cells slots 1333 (lsL i) [] σ' τ') : LOk b L xs cells slots 1010 (lsL i) [] σ τ := by
  refine lo_ald (tc22_ok.d 0 rfl rfl) rfl rfl (lo_ald (tc22_ok.d 1 rfl rfl) rfl rfl (lo_ild (tc22_ok.d 2 rfl rfl) rfl rfl (lo_ic (tc22_ok.d 3 rfl rfl) rfl (by decide) (lo_add (tc22_ok.d 4 rfl rfl) rfl ⟨by omega, by omega⟩ (lo_sld (tc22_ok.d 5 rfl rfl) rfl ⟨by omega, by omega⟩ hL (lo_ald (tc22_ok.d 6 rfl rfl) rfl rfl (lo_ild (tc22_ok.d 7 rfl rfl) rfl rfl (lo_ic (tc22_ok.d 8 rfl rfl) rfl (by decide) (lo_add (tc22_ok.d 9 rfl rfl) rfl ⟨by omega, by omega⟩ (lo_sld (tc22_ok.d 10 rfl rfl) rfl ⟨by omega, by omega⟩ hL (lo_cA (M' := M_Ev_sought) [(xs (i + 1).toNat).toInt, (xs (i + 2).toNat).toInt] (tc22_ok.d 11 rfl rfl) rfl ml_L_111 (g_Ev_sought h.1) rfl ⟨Nat.le_of_ble_eq_true rfl, Nat.le_of_ble_eq_true rfl⟩ rfl (Nat.le_of_ble_eq_true rfl) hcs hss (fun _ _ q => Or.inl ⟨q.choose, q.choose_spec.1⟩) ((fun σ' vA qA => ?_)))))))))))))
  obtain ⟨zA, eA, qA⟩ := qA
  subst eA
  refine lo_pop (tc22_ok.d 12 rfl rfl) rfl rfl (lo_ald (tc22_ok.d 13 rfl rfl) rfl rfl (lo_ald (tc22_ok.d 14 rfl rfl) rfl rfl (lo_ild (tc22_ok.d 15 rfl rfl) rfl rfl (lo_ic (tc22_ok.d 16 rfl rfl) rfl (by decide) (lo_add (tc22_ok.d 17 rfl rfl) rfl ⟨by omega, by omega⟩ (lo_sld (tc22_ok.d 18 rfl rfl) rfl ⟨by omega, by omega⟩ hL (lo_ald (tc22_ok.d 19 rfl rfl) rfl rfl (lo_ild (tc22_ok.d 20 rfl rfl) rfl rfl (lo_ic (tc22_ok.d 21 rfl rfl) rfl (by decide) (lo_add (tc22_ok.d 22 rfl rfl) rfl ⟨by omega, by omega⟩ (lo_sld (tc22_ok.d 23 rfl rfl) rfl ⟨by omega, by omega⟩ hL (lo_cB (M' := M_Mo_sought) [(xs (i + 1).toNat).toInt, (xs (i + 2).toNat).toInt] (tc22_ok.d 24 rfl rfl) rfl ml_L_114 (g_Mo_sought h.2.1) rfl ⟨Nat.le_of_ble_eq_true rfl, Nat.le_of_ble_eq_true rfl⟩ rfl (Nat.le_of_ble_eq_true rfl) hcs hss (fun _ _ q => Or.inl ⟨q.choose, q.choose_spec.1⟩) ((fun τ' vB qB => ?_))))))))))))))
  obtain ⟨zB, eB, qB⟩ := qB
  subst eB
  refine lo_pop (tc22_ok.d 25 rfl rfl) rfl rfl (lo_goto (tc22_ok.d 26 rfl rfl) rfl ?_)
  exact K _ _ (j_keepK (by omega) h qA qB)
theorem lw_c23 (hL : L ≤ 4096) (hi : 0 ≤ i ∧ i + 8 ≤ (L : Int)) (hcs : cells ≤ 600000) (hss : slots ≤ 7302250) (h : JJ i σ τ) (K : ∀ σ' τ', JJ (i + 8) σ' τ' → LOk b L xs cells slots 1333 (lsL i) [] σ' τ') : LOk b L xs cells slots 1043 (lsL i) [] σ τ := by
  refine lo_ald (tc23_ok.d 0 rfl rfl) rfl rfl (lo_ald (tc23_ok.d 1 rfl rfl) rfl rfl (lo_ild (tc23_ok.d 2 rfl rfl) rfl rfl (lo_ic (tc23_ok.d 3 rfl rfl) rfl (by decide) (lo_add (tc23_ok.d 4 rfl rfl) rfl ⟨by omega, by omega⟩ (lo_sld (tc23_ok.d 5 rfl rfl) rfl ⟨by omega, by omega⟩ hL (lo_ald (tc23_ok.d 6 rfl rfl) rfl rfl (lo_ild (tc23_ok.d 7 rfl rfl) rfl rfl (lo_ic (tc23_ok.d 8 rfl rfl) rfl (by decide) (lo_add (tc23_ok.d 9 rfl rfl) rfl ⟨by omega, by omega⟩ (lo_sld (tc23_ok.d 10 rfl rfl) rfl ⟨by omega, by omega⟩ hL (lo_ald (tc23_ok.d 11 rfl rfl) rfl rfl (lo_ild (tc23_ok.d 12 rfl rfl) rfl rfl (lo_ic (tc23_ok.d 13 rfl rfl) rfl (by decide) (lo_add (tc23_ok.d 14 rfl rfl) rfl ⟨by omega, by omega⟩ (lo_sld (tc23_ok.d 15 rfl rfl) rfl ⟨by omega, by omega⟩ hL (lo_cA (M' := M_Ev_rounded) [(xs (i + 1).toNat).toInt, (xs (i + 2).toNat).toInt, (xs (i + 3).toNat).toInt] (tc23_ok.d 16 rfl rfl) rfl ml_L_115 (g_Ev_rounded h.1) rfl ⟨Nat.le_of_ble_eq_true rfl, Nat.le_of_ble_eq_true rfl⟩ rfl (Nat.le_of_ble_eq_true rfl) hcs hss (fun _ _ q => Or.inl ⟨q.choose, q.choose_spec.1⟩) ((fun σ' vA qA => ?_))))))))))))))))))
  obtain ⟨zA, eA, qA⟩ := qA
  subst eA
  refine lo_pop (tc23_ok.d 17 rfl rfl) rfl rfl (lo_ald (tc23_ok.d 18 rfl rfl) rfl rfl (lo_ald (tc23_ok.d 19 rfl rfl) rfl rfl (lo_ild (tc23_ok.d 20 rfl rfl) rfl rfl (lo_ic (tc23_ok.d 21 rfl rfl) rfl (by decide) (lo_add (tc23_ok.d 22 rfl rfl) rfl ⟨by omega, by omega⟩ (lo_sld (tc23_ok.d 23 rfl rfl) rfl ⟨by omega, by omega⟩ hL (lo_ald (tc23_ok.d 24 rfl rfl) rfl rfl (lo_ild (tc23_ok.d 25 rfl rfl) rfl rfl (lo_ic (tc23_ok.d 26 rfl rfl) rfl (by decide) (lo_add (tc23_ok.d 27 rfl rfl) rfl ⟨by omega, by omega⟩ (lo_sld (tc23_ok.d 28 rfl rfl) rfl ⟨by omega, by omega⟩ hL (lo_ald (tc23_ok.d 29 rfl rfl) rfl rfl (lo_ild (tc23_ok.d 30 rfl rfl) rfl rfl (lo_ic (tc23_ok.d 31 rfl rfl) rfl (by decide) (lo_add (tc23_ok.d 32 rfl rfl) rfl ⟨by omega, by omega⟩ (lo_sld (tc23_ok.d 33 rfl rfl) rfl ⟨by omega, by omega⟩ hL (lo_cB (M' := M_Mo_rounded) [(xs (i + 1).toNat).toInt, (xs (i + 2).toNat).toInt, (xs (i + 3).toNat).toInt] (tc23_ok.d 34 rfl rfl) rfl ml_L_118 (g_Mo_rounded h.2.1) rfl ⟨Nat.le_of_ble_eq_true rfl, Nat.le_of_ble_eq_true rfl⟩ rfl (Nat.le_of_ble_eq_true rfl) hcs hss (fun _ _ q => Or.inl ⟨q.choose, q.choose_spec.1⟩) ((fun τ' vB qB => ?_)))))))))))))))))))
  obtain ⟨zB, eB, qB⟩ := qB
  subst eB
  refine lo_pop (tc23_ok.d 35 rfl rfl) rfl rfl (lo_goto (tc23_ok.d 36 rfl rfl) rfl ?_)
  exact K _ _ (j_keepR (by omega) h qA qB)
theorem lw_c24 (hL : L ≤ 4096) (hi : 0 ≤ i ∧ i + 8 ≤ (L : Int)) (hcs : cells ≤ 600000) (hss : slots ≤ 7302250) (h : JJ i σ τ) (K : ∀ σ' τ', JJ (i + 8) σ' τ' → LOk b L xs cells slots 1333 (lsL i) [] σ' τ') : LOk b L xs cells slots 1086 (lsL i) [] σ τ := by
  refine lo_ald (tc24_ok.d 0 rfl rfl) rfl rfl (lo_ald (tc24_ok.d 1 rfl rfl) rfl rfl (lo_ild (tc24_ok.d 2 rfl rfl) rfl rfl (lo_ic (tc24_ok.d 3 rfl rfl) rfl (by decide) (lo_add (tc24_ok.d 4 rfl rfl) rfl ⟨by omega, by omega⟩ (lo_sld (tc24_ok.d 5 rfl rfl) rfl ⟨by omega, by omega⟩ hL (lo_ald (tc24_ok.d 6 rfl rfl) rfl rfl (lo_ild (tc24_ok.d 7 rfl rfl) rfl rfl (lo_ic (tc24_ok.d 8 rfl rfl) rfl (by decide) (lo_add (tc24_ok.d 9 rfl rfl) rfl ⟨by omega, by omega⟩ (lo_sld (tc24_ok.d 10 rfl rfl) rfl ⟨by omega, by omega⟩ hL (lo_cA (M' := M_Ev_most) [(xs (i + 1).toNat).toInt, (xs (i + 2).toNat).toInt] (tc24_ok.d 11 rfl rfl) rfl ml_L_119 (g_Ev_most h.1) rfl ⟨Nat.le_of_ble_eq_true rfl, Nat.le_of_ble_eq_true rfl⟩ rfl (Nat.le_of_ble_eq_true rfl) hcs hss (fun _ _ q => Or.inl ⟨q.choose, q.choose_spec.1⟩) ((fun σ' vA qA => ?_)))))))))))))
  obtain ⟨zA, eA, qA⟩ := qA
  subst eA
  refine lo_pop (tc24_ok.d 12 rfl rfl) rfl rfl (lo_ald (tc24_ok.d 13 rfl rfl) rfl rfl (lo_ald (tc24_ok.d 14 rfl rfl) rfl rfl (lo_ild (tc24_ok.d 15 rfl rfl) rfl rfl (lo_ic (tc24_ok.d 16 rfl rfl) rfl (by decide) (lo_add (tc24_ok.d 17 rfl rfl) rfl ⟨by omega, by omega⟩ (lo_sld (tc24_ok.d 18 rfl rfl) rfl ⟨by omega, by omega⟩ hL (lo_ald (tc24_ok.d 19 rfl rfl) rfl rfl (lo_ild (tc24_ok.d 20 rfl rfl) rfl rfl (lo_ic (tc24_ok.d 21 rfl rfl) rfl (by decide) (lo_add (tc24_ok.d 22 rfl rfl) rfl ⟨by omega, by omega⟩ (lo_sld (tc24_ok.d 23 rfl rfl) rfl ⟨by omega, by omega⟩ hL (lo_cB (M' := M_Mo_most) [(xs (i + 1).toNat).toInt, (xs (i + 2).toNat).toInt] (tc24_ok.d 24 rfl rfl) rfl ml_L_122 (g_Mo_most h.2.1) rfl ⟨Nat.le_of_ble_eq_true rfl, Nat.le_of_ble_eq_true rfl⟩ rfl (Nat.le_of_ble_eq_true rfl) hcs hss (fun _ _ q => Or.inl ⟨q.choose, q.choose_spec.1⟩) ((fun τ' vB qB => ?_))))))))))))))
  obtain ⟨zB, eB, qB⟩ := qB
  subst eB
  refine lo_pop (tc24_ok.d 25 rfl rfl) rfl rfl (lo_goto (tc24_ok.d 26 rfl rfl) rfl ?_)
  exact K _ _ (j_most (by omega) h qA qB).1
theorem lw_c25 (hL : L ≤ 4096) (hi : 0 ≤ i ∧ i + 8 ≤ (L : Int)) (hcs : cells ≤ 600000) (hss : slots ≤ 7302250) (h : JJ i σ τ) (K : ∀ σ' τ', JJ (i + 8) σ' τ' → LOk b L xs cells slots 1333 (lsL i) [] σ' τ') : LOk b L xs cells slots 1119 (lsL i) [] σ τ := by
  refine lo_ald (tc25_ok.d 0 rfl rfl) rfl rfl (lo_ald (tc25_ok.d 1 rfl rfl) rfl rfl (lo_ild (tc25_ok.d 2 rfl rfl) rfl rfl (lo_ic (tc25_ok.d 3 rfl rfl) rfl (by decide) (lo_add (tc25_ok.d 4 rfl rfl) rfl ⟨by omega, by omega⟩ (lo_sld (tc25_ok.d 5 rfl rfl) rfl ⟨by omega, by omega⟩ hL (lo_cA (M' := M_Ev_mixing) [(xs (i + 1).toNat).toInt] (tc25_ok.d 6 rfl rfl) rfl ml_L_123 (g_Ev_mixing h.1) rfl ⟨Nat.le_of_ble_eq_true rfl, Nat.le_of_ble_eq_true rfl⟩ rfl (Nat.le_of_ble_eq_true rfl) hcs hss (fun _ _ q => Or.inl ⟨q.choose, q.choose_spec.1⟩) ((fun σ' vA qA => ?_))))))))
  obtain ⟨zA, eA, qA⟩ := qA
  subst eA
  refine lo_pop (tc25_ok.d 7 rfl rfl) rfl rfl (lo_ald (tc25_ok.d 8 rfl rfl) rfl rfl (lo_ald (tc25_ok.d 9 rfl rfl) rfl rfl (lo_ild (tc25_ok.d 10 rfl rfl) rfl rfl (lo_ic (tc25_ok.d 11 rfl rfl) rfl (by decide) (lo_add (tc25_ok.d 12 rfl rfl) rfl ⟨by omega, by omega⟩ (lo_sld (tc25_ok.d 13 rfl rfl) rfl ⟨by omega, by omega⟩ hL (lo_cB (M' := M_Mo_mixing) [(xs (i + 1).toNat).toInt] (tc25_ok.d 14 rfl rfl) rfl ml_L_126 (g_Mo_mixing h.2.1) rfl ⟨Nat.le_of_ble_eq_true rfl, Nat.le_of_ble_eq_true rfl⟩ rfl (Nat.le_of_ble_eq_true rfl) hcs hss (fun _ _ q => Or.inl ⟨q.choose, q.choose_spec.1⟩) ((fun τ' vB qB => ?_)))))))))
  obtain ⟨zB, eB, qB⟩ := qB
  subst eB
  refine lo_pop (tc25_ok.d 15 rfl rfl) rfl rfl (lo_goto (tc25_ok.d 16 rfl rfl) rfl ?_)
  exact K _ _ (j_mixing (by omega) h qA qB).1
theorem lw_c26 (hL : L ≤ 4096) (hi : 0 ≤ i ∧ i + 8 ≤ (L : Int)) (hcs : cells ≤ 600000) (hss : slots ≤ 7302250) (h : JJ i σ τ) (K : ∀ σ' τ', JJ (i + 8) σ' τ' → LOk b L xs cells slots 1333 (lsL i) [] σ' τ') : LOk b L xs cells slots 1142 (lsL i) [] σ τ := by
  refine lo_ald (tc26_ok.d 0 rfl rfl) rfl rfl (lo_ald (tc26_ok.d 1 rfl rfl) rfl rfl (lo_ild (tc26_ok.d 2 rfl rfl) rfl rfl (lo_ic (tc26_ok.d 3 rfl rfl) rfl (by decide) (lo_add (tc26_ok.d 4 rfl rfl) rfl ⟨by omega, by omega⟩ (lo_sld (tc26_ok.d 5 rfl rfl) rfl ⟨by omega, by omega⟩ hL (lo_ald (tc26_ok.d 6 rfl rfl) rfl rfl (lo_ild (tc26_ok.d 7 rfl rfl) rfl rfl (lo_ic (tc26_ok.d 8 rfl rfl) rfl (by decide) (lo_add (tc26_ok.d 9 rfl rfl) rfl ⟨by omega, by omega⟩ (lo_sld (tc26_ok.d 10 rfl rfl) rfl ⟨by omega, by omega⟩ hL (lo_cA (M' := M_Ev_kin) [(xs (i + 1).toNat).toInt, (xs (i + 2).toNat).toInt] (tc26_ok.d 11 rfl rfl) rfl ml_L_127 (g_Ev_kin h.1) rfl ⟨Nat.le_of_ble_eq_true rfl, Nat.le_of_ble_eq_true rfl⟩ rfl (Nat.le_of_ble_eq_true rfl) hcs hss (fun _ _ q => Or.inl ⟨q.choose, q.choose_spec.1⟩) ((fun σ' vA qA => ?_)))))))))))))
  obtain ⟨zA, eA, qA⟩ := qA
  subst eA
  refine lo_pop (tc26_ok.d 12 rfl rfl) rfl rfl (lo_ald (tc26_ok.d 13 rfl rfl) rfl rfl (lo_ald (tc26_ok.d 14 rfl rfl) rfl rfl (lo_ild (tc26_ok.d 15 rfl rfl) rfl rfl (lo_ic (tc26_ok.d 16 rfl rfl) rfl (by decide) (lo_add (tc26_ok.d 17 rfl rfl) rfl ⟨by omega, by omega⟩ (lo_sld (tc26_ok.d 18 rfl rfl) rfl ⟨by omega, by omega⟩ hL (lo_ald (tc26_ok.d 19 rfl rfl) rfl rfl (lo_ild (tc26_ok.d 20 rfl rfl) rfl rfl (lo_ic (tc26_ok.d 21 rfl rfl) rfl (by decide) (lo_add (tc26_ok.d 22 rfl rfl) rfl ⟨by omega, by omega⟩ (lo_sld (tc26_ok.d 23 rfl rfl) rfl ⟨by omega, by omega⟩ hL (lo_cB (M' := M_Mo_kin) [(xs (i + 1).toNat).toInt, (xs (i + 2).toNat).toInt] (tc26_ok.d 24 rfl rfl) rfl ml_L_130 (g_Mo_kin h.2.1) rfl ⟨Nat.le_of_ble_eq_true rfl, Nat.le_of_ble_eq_true rfl⟩ rfl (Nat.le_of_ble_eq_true rfl) hcs hss (fun _ _ q => Or.inl ⟨q.choose, q.choose_spec.1⟩) ((fun τ' vB qB => ?_))))))))))))))
  obtain ⟨zB, eB, qB⟩ := qB
  subst eB
  refine lo_pop (tc26_ok.d 25 rfl rfl) rfl rfl (lo_goto (tc26_ok.d 26 rfl rfl) rfl ?_)
  exact K _ _ (j_kin (by omega) h qA qB).1
theorem lw_c27 (hL : L ≤ 4096) (hi : 0 ≤ i ∧ i + 8 ≤ (L : Int)) (hcs : cells ≤ 600000) (hss : slots ≤ 7302250) (h : JJ i σ τ) (K : ∀ σ' τ', JJ (i + 8) σ' τ' → LOk b L xs cells slots 1333 (lsL i) [] σ' τ') : LOk b L xs cells slots 1175 (lsL i) [] σ τ := by
  refine lo_ald (tc27_ok.d 0 rfl rfl) rfl rfl (lo_cA (M' := M_Ev_show) [] (tc27_ok.d 1 rfl rfl) rfl ml_L_131 (g_Ev_show h.1) rfl ⟨Nat.le_of_ble_eq_true rfl, Nat.le_of_ble_eq_true rfl⟩ rfl (Nat.le_of_ble_eq_true rfl) hcs hss (fun _ _ q => Or.inl ⟨q.choose, q.choose_spec.1⟩) ((fun σ' vA qA => ?_)))
  obtain ⟨zA, eA, qA⟩ := qA
  subst eA
  refine lo_pop (tc27_ok.d 2 rfl rfl) rfl rfl (lo_ald (tc27_ok.d 3 rfl rfl) rfl rfl (lo_cB (M' := M_Mo_show) [] (tc27_ok.d 4 rfl rfl) rfl ml_L_135 (g_Mo_show h.2.1) rfl ⟨Nat.le_of_ble_eq_true rfl, Nat.le_of_ble_eq_true rfl⟩ rfl (Nat.le_of_ble_eq_true rfl) hcs hss (fun _ _ q => Or.inl ⟨q.choose, q.choose_spec.1⟩) ((fun τ' vB qB => ?_))))
  obtain ⟨zB, eB, qB⟩ := qB
  subst eB
  refine lo_pop (tc27_ok.d 5 rfl rfl) rfl rfl (lo_goto (tc27_ok.d 6 rfl rfl) rfl ?_)
  exact K _ _ (j_show (by omega) h qA qB).1
theorem lw_c28 (hL : L ≤ 4096) (hi : 0 ≤ i ∧ i + 8 ≤ (L : Int)) (hcs : cells ≤ 600000) (hss : slots ≤ 7302250) (h : JJ i σ τ) (K : ∀ σ' τ', JJ (i + 8) σ' τ' → LOk b L xs cells slots 1333 (lsL i) [] σ' τ') : LOk b L xs cells slots 1188 (lsL i) [] σ τ := by
  refine lo_ald (tc28_ok.d 0 rfl rfl) rfl rfl (lo_ald (tc28_ok.d 1 rfl rfl) rfl rfl (lo_ild (tc28_ok.d 2 rfl rfl) rfl rfl (lo_ic (tc28_ok.d 3 rfl rfl) rfl (by decide) (lo_add (tc28_ok.d 4 rfl rfl) rfl ⟨by omega, by omega⟩ (lo_sld (tc28_ok.d 5 rfl rfl) rfl ⟨by omega, by omega⟩ hL (lo_cA (M' := M_Ev_out) [(xs (i + 1).toNat).toInt] (tc28_ok.d 6 rfl rfl) rfl ml_L_136 (g_Ev_out h.1) rfl ⟨Nat.le_of_ble_eq_true rfl, Nat.le_of_ble_eq_true rfl⟩ rfl (Nat.le_of_ble_eq_true rfl) hcs hss (fun _ _ q => Or.inl ⟨q.choose, q.choose_spec.1⟩) ((fun σ' vA qA => ?_))))))))
  obtain ⟨zA, eA, qA⟩ := qA
  subst eA
  refine lo_pop (tc28_ok.d 7 rfl rfl) rfl rfl (lo_ald (tc28_ok.d 8 rfl rfl) rfl rfl (lo_ald (tc28_ok.d 9 rfl rfl) rfl rfl (lo_ild (tc28_ok.d 10 rfl rfl) rfl rfl (lo_ic (tc28_ok.d 11 rfl rfl) rfl (by decide) (lo_add (tc28_ok.d 12 rfl rfl) rfl ⟨by omega, by omega⟩ (lo_sld (tc28_ok.d 13 rfl rfl) rfl ⟨by omega, by omega⟩ hL (lo_cB (M' := M_Mo_out) [(xs (i + 1).toNat).toInt] (tc28_ok.d 14 rfl rfl) rfl ml_L_139 (g_Mo_out h.2.1) rfl ⟨Nat.le_of_ble_eq_true rfl, Nat.le_of_ble_eq_true rfl⟩ rfl (Nat.le_of_ble_eq_true rfl) hcs hss (fun _ _ q => Or.inl ⟨q.choose, q.choose_spec.1⟩) ((fun τ' vB qB => ?_)))))))))
  obtain ⟨zB, eB, qB⟩ := qB
  subst eB
  refine lo_pop (tc28_ok.d 15 rfl rfl) rfl rfl (lo_goto (tc28_ok.d 16 rfl rfl) rfl ?_)
  exact K _ _ (j_out (by omega) h qA qB).1
theorem lw_c29 (hL : L ≤ 4096) (hi : 0 ≤ i ∧ i + 8 ≤ (L : Int)) (hcs : cells ≤ 600000) (hss : slots ≤ 7302250) (h : JJ i σ τ) (K : ∀ σ' τ', JJ (i + 8) σ' τ' → LOk b L xs cells slots 1333 (lsL i) [] σ' τ') : LOk b L xs cells slots 1211 (lsL i) [] σ τ := by
  refine lo_ald (tc29_ok.d 0 rfl rfl) rfl rfl (lo_ald (tc29_ok.d 1 rfl rfl) rfl rfl (lo_ild (tc29_ok.d 2 rfl rfl) rfl rfl (lo_ic (tc29_ok.d 3 rfl rfl) rfl (by decide) (lo_add (tc29_ok.d 4 rfl rfl) rfl ⟨by omega, by omega⟩ (lo_sld (tc29_ok.d 5 rfl rfl) rfl ⟨by omega, by omega⟩ hL (lo_ald (tc29_ok.d 6 rfl rfl) rfl rfl (lo_ild (tc29_ok.d 7 rfl rfl) rfl rfl (lo_ic (tc29_ok.d 8 rfl rfl) rfl (by decide) (lo_add (tc29_ok.d 9 rfl rfl) rfl ⟨by omega, by omega⟩ (lo_sld (tc29_ok.d 10 rfl rfl) rfl ⟨by omega, by omega⟩ hL (lo_cA (M' := M_Ev_shop) [(xs (i + 1).toNat).toInt, (xs (i + 2).toNat).toInt] (tc29_ok.d 11 rfl rfl) rfl ml_L_140 (g_Ev_shop (h.pe (by omega))) rfl ⟨Nat.le_of_ble_eq_true rfl, Nat.le_of_ble_eq_true rfl⟩ rfl (Nat.le_of_ble_eq_true rfl) hcs hss (fun _ _ q => Or.inl ⟨q.choose, q.choose_spec.1⟩) ((fun σ' vA qA => ?_)))))))))))))
  obtain ⟨zA, eA, qA⟩ := qA
  subst eA
  refine lo_pop (tc29_ok.d 12 rfl rfl) rfl rfl (lo_ald (tc29_ok.d 13 rfl rfl) rfl rfl (lo_ald (tc29_ok.d 14 rfl rfl) rfl rfl (lo_ild (tc29_ok.d 15 rfl rfl) rfl rfl (lo_ic (tc29_ok.d 16 rfl rfl) rfl (by decide) (lo_add (tc29_ok.d 17 rfl rfl) rfl ⟨by omega, by omega⟩ (lo_sld (tc29_ok.d 18 rfl rfl) rfl ⟨by omega, by omega⟩ hL (lo_ald (tc29_ok.d 19 rfl rfl) rfl rfl (lo_ild (tc29_ok.d 20 rfl rfl) rfl rfl (lo_ic (tc29_ok.d 21 rfl rfl) rfl (by decide) (lo_add (tc29_ok.d 22 rfl rfl) rfl ⟨by omega, by omega⟩ (lo_sld (tc29_ok.d 23 rfl rfl) rfl ⟨by omega, by omega⟩ hL (lo_cB (M' := M_Mo_shop) [(xs (i + 1).toNat).toInt, (xs (i + 2).toNat).toInt] (tc29_ok.d 24 rfl rfl) rfl ml_L_143 (g_Mo_shop h.2.1) rfl ⟨Nat.le_of_ble_eq_true rfl, Nat.le_of_ble_eq_true rfl⟩ rfl (Nat.le_of_ble_eq_true rfl) hcs hss (fun _ _ q => Or.inl ⟨q.choose, q.choose_spec.1⟩) ((fun τ' vB qB => ?_))))))))))))))
  obtain ⟨zB, eB, qB⟩ := qB
  subst eB
  refine lo_pop (tc29_ok.d 25 rfl rfl) rfl rfl (lo_goto (tc29_ok.d 26 rfl rfl) rfl ?_)
  exact K _ _ (j_shop (by omega) h qA qB).1
theorem lw_c30 (hL : L ≤ 4096) (hi : 0 ≤ i ∧ i + 8 ≤ (L : Int)) (hcs : cells ≤ 600000) (hss : slots ≤ 7302250) (h : JJ i σ τ) (K : ∀ σ' τ', JJ (i + 8) σ' τ' → LOk b L xs cells slots 1333 (lsL i) [] σ' τ') : LOk b L xs cells slots 1244 (lsL i) [] σ τ := by
  refine lo_ald (tc30_ok.d 0 rfl rfl) rfl rfl (lo_ald (tc30_ok.d 1 rfl rfl) rfl rfl (lo_ild (tc30_ok.d 2 rfl rfl) rfl rfl (lo_ic (tc30_ok.d 3 rfl rfl) rfl (by decide) (lo_add (tc30_ok.d 4 rfl rfl) rfl ⟨by omega, by omega⟩ (lo_sld (tc30_ok.d 5 rfl rfl) rfl ⟨by omega, by omega⟩ hL (lo_ald (tc30_ok.d 6 rfl rfl) rfl rfl (lo_ild (tc30_ok.d 7 rfl rfl) rfl rfl (lo_ic (tc30_ok.d 8 rfl rfl) rfl (by decide) (lo_add (tc30_ok.d 9 rfl rfl) rfl ⟨by omega, by omega⟩ (lo_sld (tc30_ok.d 10 rfl rfl) rfl ⟨by omega, by omega⟩ hL (lo_cA (M' := M_Ev_works) [(xs (i + 1).toNat).toInt, (xs (i + 2).toNat).toInt] (tc30_ok.d 11 rfl rfl) rfl ml_L_144 (g_Ev_works h.1) rfl ⟨Nat.le_of_ble_eq_true rfl, Nat.le_of_ble_eq_true rfl⟩ rfl (Nat.le_of_ble_eq_true rfl) hcs hss (fun _ _ q => Or.inl ⟨q.choose, q.choose_spec.1⟩) ((fun σ' vA qA => ?_)))))))))))))
  obtain ⟨zA, eA, qA⟩ := qA
  subst eA
  refine lo_pop (tc30_ok.d 12 rfl rfl) rfl rfl (lo_ald (tc30_ok.d 13 rfl rfl) rfl rfl (lo_ald (tc30_ok.d 14 rfl rfl) rfl rfl (lo_ild (tc30_ok.d 15 rfl rfl) rfl rfl (lo_ic (tc30_ok.d 16 rfl rfl) rfl (by decide) (lo_add (tc30_ok.d 17 rfl rfl) rfl ⟨by omega, by omega⟩ (lo_sld (tc30_ok.d 18 rfl rfl) rfl ⟨by omega, by omega⟩ hL (lo_ald (tc30_ok.d 19 rfl rfl) rfl rfl (lo_ild (tc30_ok.d 20 rfl rfl) rfl rfl (lo_ic (tc30_ok.d 21 rfl rfl) rfl (by decide) (lo_add (tc30_ok.d 22 rfl rfl) rfl ⟨by omega, by omega⟩ (lo_sld (tc30_ok.d 23 rfl rfl) rfl ⟨by omega, by omega⟩ hL (lo_cB (M' := M_Mo_works) [(xs (i + 1).toNat).toInt, (xs (i + 2).toNat).toInt] (tc30_ok.d 24 rfl rfl) rfl ml_L_147 (g_Mo_works h.2.1) rfl ⟨Nat.le_of_ble_eq_true rfl, Nat.le_of_ble_eq_true rfl⟩ rfl (Nat.le_of_ble_eq_true rfl) hcs hss (fun _ _ q => Or.inl ⟨q.choose, q.choose_spec.1⟩) ((fun τ' vB qB => ?_))))))))))))))
  obtain ⟨zB, eB, qB⟩ := qB
  subst eB
  refine lo_pop (tc30_ok.d 25 rfl rfl) rfl rfl (lo_goto (tc30_ok.d 26 rfl rfl) rfl ?_)
  exact K _ _ (j_works (by omega) h qA qB).1
theorem lw_c31 (hL : L ≤ 4096) (hi : 0 ≤ i ∧ i + 8 ≤ (L : Int)) (hcs : cells ≤ 600000) (hss : slots ≤ 7302250) (h : JJ i σ τ) (K : ∀ σ' τ', JJ (i + 8) σ' τ' → LOk b L xs cells slots 1333 (lsL i) [] σ' τ') : LOk b L xs cells slots 1277 (lsL i) [] σ τ := by
  refine lo_ald (tc31_ok.d 0 rfl rfl) rfl rfl (lo_ald (tc31_ok.d 1 rfl rfl) rfl rfl (lo_ild (tc31_ok.d 2 rfl rfl) rfl rfl (lo_ic (tc31_ok.d 3 rfl rfl) rfl (by decide) (lo_add (tc31_ok.d 4 rfl rfl) rfl ⟨by omega, by omega⟩ (lo_sld (tc31_ok.d 5 rfl rfl) rfl ⟨by omega, by omega⟩ hL (lo_ald (tc31_ok.d 6 rfl rfl) rfl rfl (lo_ild (tc31_ok.d 7 rfl rfl) rfl rfl (lo_ic (tc31_ok.d 8 rfl rfl) rfl (by decide) (lo_add (tc31_ok.d 9 rfl rfl) rfl ⟨by omega, by omega⟩ (lo_sld (tc31_ok.d 10 rfl rfl) rfl ⟨by omega, by omega⟩ hL (lo_cA (M' := M_Ev_job) [(xs (i + 1).toNat).toInt, (xs (i + 2).toNat).toInt] (tc31_ok.d 11 rfl rfl) rfl ml_L_148 (g_Ev_job h.1) rfl ⟨Nat.le_of_ble_eq_true rfl, Nat.le_of_ble_eq_true rfl⟩ rfl (Nat.le_of_ble_eq_true rfl) hcs hss (fun _ _ q => Or.inl ⟨q.choose, q.choose_spec.1⟩) ((fun σ' vA qA => ?_)))))))))))))
  obtain ⟨zA, eA, qA⟩ := qA
  subst eA
  refine lo_pop (tc31_ok.d 12 rfl rfl) rfl rfl (lo_ald (tc31_ok.d 13 rfl rfl) rfl rfl (lo_ald (tc31_ok.d 14 rfl rfl) rfl rfl (lo_ild (tc31_ok.d 15 rfl rfl) rfl rfl (lo_ic (tc31_ok.d 16 rfl rfl) rfl (by decide) (lo_add (tc31_ok.d 17 rfl rfl) rfl ⟨by omega, by omega⟩ (lo_sld (tc31_ok.d 18 rfl rfl) rfl ⟨by omega, by omega⟩ hL (lo_ald (tc31_ok.d 19 rfl rfl) rfl rfl (lo_ild (tc31_ok.d 20 rfl rfl) rfl rfl (lo_ic (tc31_ok.d 21 rfl rfl) rfl (by decide) (lo_add (tc31_ok.d 22 rfl rfl) rfl ⟨by omega, by omega⟩ (lo_sld (tc31_ok.d 23 rfl rfl) rfl ⟨by omega, by omega⟩ hL (lo_cB (M' := M_Mo_job) [(xs (i + 1).toNat).toInt, (xs (i + 2).toNat).toInt] (tc31_ok.d 24 rfl rfl) rfl ml_L_151 (g_Mo_job h.2.1) rfl ⟨Nat.le_of_ble_eq_true rfl, Nat.le_of_ble_eq_true rfl⟩ rfl (Nat.le_of_ble_eq_true rfl) hcs hss (fun _ _ q => Or.inl ⟨q.choose, q.choose_spec.1⟩) ((fun τ' vB qB => ?_))))))))))))))
  obtain ⟨zB, eB, qB⟩ := qB
  subst eB
  refine lo_pop (tc31_ok.d 25 rfl rfl) rfl rfl (lo_goto (tc31_ok.d 26 rfl rfl) rfl ?_)
  exact K _ _ (j_keep (by omega) h qA qB)
theorem lw_c32 (hL : L ≤ 4096) (hi : 0 ≤ i ∧ i + 8 ≤ (L : Int)) (hcs : cells ≤ 600000) (hss : slots ≤ 7302250) (h : JJ i σ τ) (K : ∀ σ' τ', JJ (i + 8) σ' τ' → LOk b L xs cells slots 1333 (lsL i) [] σ' τ') : LOk b L xs cells slots 1310 (lsL i) [] σ τ := by
  refine lo_ald (tc32_ok.d 0 rfl rfl) rfl rfl (lo_ald (tc32_ok.d 1 rfl rfl) rfl rfl (lo_ild (tc32_ok.d 2 rfl rfl) rfl rfl (lo_ic (tc32_ok.d 3 rfl rfl) rfl (by decide) (lo_add (tc32_ok.d 4 rfl rfl) rfl ⟨by omega, by omega⟩ (lo_sld (tc32_ok.d 5 rfl rfl) rfl ⟨by omega, by omega⟩ hL (lo_cA (M' := M_Ev_kept) [(xs (i + 1).toNat).toInt] (tc32_ok.d 6 rfl rfl) rfl ml_L_152 (g_Ev_kept h.1) rfl ⟨Nat.le_of_ble_eq_true rfl, Nat.le_of_ble_eq_true rfl⟩ rfl (Nat.le_of_ble_eq_true rfl) hcs hss (fun _ _ q => Or.inl ⟨q.choose, q.choose_spec.1⟩) ((fun σ' vA qA => ?_))))))))
  obtain ⟨zA, eA, qA⟩ := qA
  subst eA
  refine lo_pop (tc32_ok.d 7 rfl rfl) rfl rfl (lo_ald (tc32_ok.d 8 rfl rfl) rfl rfl (lo_ald (tc32_ok.d 9 rfl rfl) rfl rfl (lo_ild (tc32_ok.d 10 rfl rfl) rfl rfl (lo_ic (tc32_ok.d 11 rfl rfl) rfl (by decide) (lo_add (tc32_ok.d 12 rfl rfl) rfl ⟨by omega, by omega⟩ (lo_sld (tc32_ok.d 13 rfl rfl) rfl ⟨by omega, by omega⟩ hL (lo_cB (M' := M_Mo_kept) [(xs (i + 1).toNat).toInt] (tc32_ok.d 14 rfl rfl) rfl ml_L_155 (g_Mo_kept h.2.1) rfl ⟨Nat.le_of_ble_eq_true rfl, Nat.le_of_ble_eq_true rfl⟩ rfl (Nat.le_of_ble_eq_true rfl) hcs hss (fun _ _ q => Or.inl ⟨q.choose, q.choose_spec.1⟩) ((fun τ' vB qB => ?_)))))))))
  obtain ⟨zB, eB, qB⟩ := qB
  subst eB
  refine lo_pop (tc32_ok.d 15 rfl rfl) rfl rfl (lo_goto (tc32_ok.d 16 rfl rfl) rfl ?_)
  exact K _ _ (j_kept (by omega) h qA qB).1
end E9
end
section
/-- the loop: from its head, with both sides alike -/
theorem lw_lp {b L : Nat} {xs : Nat → Int32} {cells slots : Nat} (hL : L ≤ 4096) (hcs : cells ≤ 600000) (hss : slots ≤ 7302250) : ∀ (n : Nat) (i : Int) (σ τ : eS), 0 ≤ i → i ≤ (L : Int) → (L : Int) - i ≤ (n : Int) → JJ i σ τ → LOk b L xs cells slots 18 (lsL i) [] σ τ := by
  intro n
  induction n using Nat.strongRecOn with
  | ind n ih =>
    intro i σ τ i0 iL hn h
    refine lo_ild (tH_ok.d 0 rfl rfl) rfl rfl (lo_ald (tH_ok.d 1 rfl rfl) rfl rfl (lo_slen (tH_ok.d 2 rfl rfl) rfl hL (lo_bp (tH_ok.d 3 rfl rfl) rfl (by decide) (by decide) (lo_sub (tH_ok.d 4 rfl rfl) rfl ⟨by omega, by omega⟩ (lo_gt (tH_ok.d 5 rfl rfl) rfl rfl (fun h1 => ?_) (fun h1 => ?_))))))
    · exact lo_ic (tE_ok.d 2 rfl rfl) rfl (by decide) (lo_end (tE_ok.d 3 rfl rfl) hcs hss)
    · have K : ∀ σ' τ', JJ (i + 8) σ' τ' → LOk b L xs cells slots 1333 (lsL i) [] σ' τ' := fun σ' τ' h' => lo_inc (tE_ok.d 0 rfl rfl) rfl rfl ⟨by omega, by omega⟩ (lo_goto (tE_ok.d 1 rfl rfl) rfl (ih (n - 8) (by omega) (i + 8) σ' τ' (by omega) (by omega) (by omega) h'))
      refine lo_ald (tH_ok.d 6 rfl rfl) rfl rfl (lo_ild (tH_ok.d 7 rfl rfl) rfl rfl (lo_sld (tH_ok.d 8 rfl rfl) rfl ⟨by omega, by omega⟩ hL (lo_bp (tH_ok.d 9 rfl rfl) rfl (by decide) (by decide) (lo_and (tH_ok.d 10 rfl rfl) rfl ?_))))
      obtain ⟨w, ew⟩ : ∃ w : Int, w = iand (xs i.toNat).toInt 63 := ⟨_, rfl⟩
      rw [← ew]
      clear ew
      rcases (by omega : w = 0 ∨ w = 1 ∨ w = 2 ∨ w = 3 ∨ w = 4 ∨ w = 5 ∨ w = 6 ∨ w = 7 ∨ w = 8 ∨ w = 9 ∨ w = 10 ∨ w = 11 ∨ w = 12 ∨ w = 13 ∨ w = 14 ∨ w = 15 ∨ w = 16 ∨ w = 17 ∨ w = 18 ∨ w = 19 ∨ w = 20 ∨ w = 21 ∨ w = 22 ∨ w = 23 ∨ w = 24 ∨ w = 25 ∨ w = 26 ∨ w = 27 ∨ w = 28 ∨ w = 29 ∨ w = 30 ∨ w = 31 ∨ w = 32 ∨ (w < 0 ∨ 32 < w)) with q | q | q | q | q | q | q | q | q | q | q | q | q | q | q | q | q | q | q | q | q | q | q | q | q | q | q | q | q | q | q | q | q | q
      · subst q
        exact lo_tin (len := 147) (tH_ok.d 11 rfl rfl) (by decide) (by decide) rfl rfl (lw_c0 hL ⟨i0, by omega⟩ hcs hss h K)
      · subst q
        exact lo_tin (len := 147) (tH_ok.d 11 rfl rfl) (by decide) (by decide) rfl rfl (lw_c1 hL ⟨i0, by omega⟩ hcs hss h K)
      · subst q
        exact lo_tin (len := 147) (tH_ok.d 11 rfl rfl) (by decide) (by decide) rfl rfl (lw_c2 hL ⟨i0, by omega⟩ hcs hss h K)
      · subst q
        exact lo_tin (len := 147) (tH_ok.d 11 rfl rfl) (by decide) (by decide) rfl rfl (lw_c3 hL ⟨i0, by omega⟩ hcs hss h K)
      · subst q
        exact lo_tin (len := 147) (tH_ok.d 11 rfl rfl) (by decide) (by decide) rfl rfl (lw_c4 hL ⟨i0, by omega⟩ hcs hss h K)
      · subst q
        exact lo_tin (len := 147) (tH_ok.d 11 rfl rfl) (by decide) (by decide) rfl rfl (lw_c5 hL ⟨i0, by omega⟩ hcs hss h K)
      · subst q
        exact lo_tin (len := 147) (tH_ok.d 11 rfl rfl) (by decide) (by decide) rfl rfl (lw_c6 hL ⟨i0, by omega⟩ hcs hss h K)
      · subst q
        exact lo_tin (len := 147) (tH_ok.d 11 rfl rfl) (by decide) (by decide) rfl rfl (lw_c7 hL ⟨i0, by omega⟩ hcs hss h K)
      · subst q
        exact lo_tin (len := 147) (tH_ok.d 11 rfl rfl) (by decide) (by decide) rfl rfl (lw_c8 hL ⟨i0, by omega⟩ hcs hss h K)
      · subst q
        exact lo_tin (len := 147) (tH_ok.d 11 rfl rfl) (by decide) (by decide) rfl rfl (lw_c9 hL ⟨i0, by omega⟩ hcs hss h K)
      · subst q
        exact lo_tin (len := 147) (tH_ok.d 11 rfl rfl) (by decide) (by decide) rfl rfl (lw_c10 hL ⟨i0, by omega⟩ hcs hss h K)
      · subst q
        exact lo_tin (len := 147) (tH_ok.d 11 rfl rfl) (by decide) (by decide) rfl rfl (lw_c11 hL ⟨i0, by omega⟩ hcs hss h K)
      · subst q
        exact lo_tin (len := 147) (tH_ok.d 11 rfl rfl) (by decide) (by decide) rfl rfl (lw_c12 hL ⟨i0, by omega⟩ hcs hss h K)
      · subst q
        exact lo_tin (len := 147) (tH_ok.d 11 rfl rfl) (by decide) (by decide) rfl rfl (lw_c13 hL ⟨i0, by omega⟩ hcs hss h K)
      · subst q
        exact lo_tin (len := 147) (tH_ok.d 11 rfl rfl) (by decide) (by decide) rfl rfl (lw_c14 hL ⟨i0, by omega⟩ hcs hss h K)
      · subst q
        exact lo_tin (len := 147) (tH_ok.d 11 rfl rfl) (by decide) (by decide) rfl rfl (lw_c15 hL ⟨i0, by omega⟩ hcs hss h K)
      · subst q
        exact lo_tin (len := 147) (tH_ok.d 11 rfl rfl) (by decide) (by decide) rfl rfl (lw_c16 hL ⟨i0, by omega⟩ hcs hss h K)
      · subst q
        exact lo_tin (len := 147) (tH_ok.d 11 rfl rfl) (by decide) (by decide) rfl rfl (lw_c17 hL ⟨i0, by omega⟩ hcs hss h K)
      · subst q
        exact lo_tin (len := 147) (tH_ok.d 11 rfl rfl) (by decide) (by decide) rfl rfl (lw_c18 hL ⟨i0, by omega⟩ hcs hss h K)
      · subst q
        exact lo_tin (len := 147) (tH_ok.d 11 rfl rfl) (by decide) (by decide) rfl rfl (lw_c19 hL ⟨i0, by omega⟩ hcs hss h K)
      · subst q
        exact lo_tin (len := 147) (tH_ok.d 11 rfl rfl) (by decide) (by decide) rfl rfl (lw_c20 hL ⟨i0, by omega⟩ hcs hss h K)
      · subst q
        exact lo_tin (len := 147) (tH_ok.d 11 rfl rfl) (by decide) (by decide) rfl rfl (lw_c21 hL ⟨i0, by omega⟩ hcs hss h K)
      · subst q
        exact lo_tin (len := 147) (tH_ok.d 11 rfl rfl) (by decide) (by decide) rfl rfl (lw_c22 hL ⟨i0, by omega⟩ hcs hss h K)
      · subst q
        exact lo_tin (len := 147) (tH_ok.d 11 rfl rfl) (by decide) (by decide) rfl rfl (lw_c23 hL ⟨i0, by omega⟩ hcs hss h K)
      · subst q
        exact lo_tin (len := 147) (tH_ok.d 11 rfl rfl) (by decide) (by decide) rfl rfl (lw_c24 hL ⟨i0, by omega⟩ hcs hss h K)
      · subst q
        exact lo_tin (len := 147) (tH_ok.d 11 rfl rfl) (by decide) (by decide) rfl rfl (lw_c25 hL ⟨i0, by omega⟩ hcs hss h K)
      · subst q
        exact lo_tin (len := 147) (tH_ok.d 11 rfl rfl) (by decide) (by decide) rfl rfl (lw_c26 hL ⟨i0, by omega⟩ hcs hss h K)
      · subst q
        exact lo_tin (len := 147) (tH_ok.d 11 rfl rfl) (by decide) (by decide) rfl rfl (lw_c27 hL ⟨i0, by omega⟩ hcs hss h K)
      · subst q
        exact lo_tin (len := 147) (tH_ok.d 11 rfl rfl) (by decide) (by decide) rfl rfl (lw_c28 hL ⟨i0, by omega⟩ hcs hss h K)
      · subst q
        exact lo_tin (len := 147) (tH_ok.d 11 rfl rfl) (by decide) (by decide) rfl rfl (lw_c29 hL ⟨i0, by omega⟩ hcs hss h K)
      · subst q
        exact lo_tin (len := 147) (tH_ok.d 11 rfl rfl) (by decide) (by decide) rfl rfl (lw_c30 hL ⟨i0, by omega⟩ hcs hss h K)
      · subst q
        exact lo_tin (len := 147) (tH_ok.d 11 rfl rfl) (by decide) (by decide) rfl rfl (lw_c31 hL ⟨i0, by omega⟩ hcs hss h K)
      · subst q
        exact lo_tin (len := 147) (tH_ok.d 11 rfl rfl) (by decide) (by decide) rfl rfl (lw_c32 hL ⟨i0, by omega⟩ hcs hss h K)
      · exact lo_tout (len := 147) (tH_ok.d 11 rfl rfl) q rfl (K σ τ h.mn)
end
section
/-! CONSTRUCTORS: the object made stands first in its world, what it makes comes behind -/
def okN (M : eM) : Prop := (∀ e ∈ eTab M, decode (eCode M) e.1 = .ok (e.2.1, e.2.2 - e.1)) ∧ Cond.code (eNm M) (eCode M) (eNL M) (eRet M) ∈ eTbl ∧ plainName (eNm M).cls = true ∧ (eNm M).cls = eOwn M ∧ eRet M = none
theorem okN_of {M : eM} (h : dkT (eCode M) (eTab M) (eCode M).data.toList 0 = true) (h1 : Cond.code (eNm M) (eCode M) (eNL M) (eRet M) ∈ eTbl) (h2 : plainName (eNm M).cls = true) (h3 : (eNm M).cls = eOwn M) (h4 : eRet M = none) : okN M :=
  ⟨dkT_ok (eTab M) _ 0 rfl h, h1, h2, h3, h4⟩
theorem okN.dec {M : eM} (h : okN M) (i : Nat) {pc n n' : Nat} {ins : Instr} (hd : nth (eTab M) i = some (pc, ins, n')) (hn : pc + n = n') : decode (eCode M) pc = .ok (ins, n) := by
  have h1 := h.1 _ (nth_mem hd)
  rw [h1, ← hn]
  show Except.ok (ins, pc + n - pc) = _
  rw [Nat.add_sub_cancel_left]
abbrev kT : Type := List (ClassId × FieldType)
def kQ (D : va_G) (A : Nat → Prop) (Q : va_W → kT → Prop) : Array Value → State → Outcome → State → Prop := va_Qv (S := va_W × kT) (fun u => Q u.1 u.2) (fun u t => va_P D eCl u.1 t.heap ∧ va_K D eCl u.2 t ∧ va_D A u.1) A
def kC (M : eM) (N : State → Prop) (A : Nat → Prop) (p : Program) (s : State) (m : MethodId) (args : Array Value) (meth : Method) (c : Code) : Prop :=
  okN M ∧ p.tables.exec = Jvm.exec ∧ c.code = eCode M ∧ c.maxLocals = eNL M ∧ meth.sig.returnType = none ∧ meth.locks = false ∧ s.vm.findClass (eOwn M) = some m.cls ∧ (∀ w ∈ eTbl, w.before args s = true) ∧ meth.name = "<init>" ∧ (∀ q, s.heap.size ≤ q → A q) ∧ N s
def COk (M : eM) (D : va_G) (N : State → Prop) (Q : va_W → kT → Prop) (kc ks pc : Nat) (lv : List (Nat × Value)) (st : List Value) (w : va_W) (tys : kT) : Prop :=
  ∀ (l : Launch) (p : Program) (e : Env) (s : State) (m : MethodId) (args : Array Value) (below : List Frame) (meth : Method) (c : Code) (A : Nat → Prop) (H : Heap) (locs : List Loc) (la : Array Slot),
    kC M N A p s m args meth c → va_K D eCl tys s → va_P D eCl w H → va_D A w → va_S A s.heap H locs → lv_has la (eNL M) lv →
    W p l e (eRm M) s m args below meth c H locs kc ks (MQ below (kQ D A Q) args s (eRm M).cells (eRm M).slots A) (F0 m pc la st)
/-- a constructor's contract -/
def CM (M : eM) (D : va_G) (N : State → Prop) (h0 : Nat) (As : List Value) (e0 : va_E) (Q : va_W → kT → Prop) : Prop :=
  okN M ∧ ∀ (l : Launch) (sz : Nat), Met l (eNm M) (eWs M) (eRm M) (va_Pc (.ref h0 :: As) (fun U => U.heap.size = sz ∧ va_P D eCl [(h0, e0)] U.heap ∧ va_K D eCl [] U ∧ va_D (fun _ => True) [(h0, e0)] ∧ N U)) (kQ D (va_A [(h0, e0)] sz) Q) (eRm M).cells (eRm M).slots (va_A [(h0, e0)] sz)
section K1
variable {M : eM} {D : va_G} {N : State → Prop} {Q : va_W → kT → Prop} {kc ks pc pc' tgt : Nat} {lv : List (Nat × Value)} {st : List Value} {w : va_W} {tys : kT} {h0 : Nat}
theorem CM.of {As : List Value} {e0 : va_E} (hM : okN M) (hy : (eNm M).name = "<init>") (hlen : (lg_sl (.ref h0 :: As)).length ≤ eNL M) (h : COk M D N Q 0 0 0 (lv_args 0 (.ref h0 :: As)) [] [(h0, e0)] []) : CM M D N h0 As e0 Q := by
  refine ⟨hM, fun l sz => ?_⟩
  refine Met.ofW (cc := eCode M) (maxL := eNL M) (ret := eRet M) hM.2.2.1 rfl ?_
  intro p e s m args below meth c s₁ B hml hv
  obtain ⟨rfl, hsz, hP, hK, hD0, hN⟩ := hv
  have hown : s.vm.findClass (eNm M).cls = some m.cls := findClass_of_methodNamed B.named
  have hts := atoms_spec (ws := eWs M) B.pre
  have hin : meth.name = (eNm M).name := (name_of_methodNamed B.named B.method).1
  subst hsz
  rw [lg_entry_eq]
  have hret : meth.sig.returnType = none := by rw [← hM.2.2.2.2]; exact B.returns
  have hi : meth.name = "<init>" := hin.trans hy
  exact h l p e s m _ below meth c _ s.heap [] _ ⟨hM, B.exec, B.bytes, hml, hret, B.notSynchronized, by rw [← hM.2.2.2.1]; exact hown, fun w hw => hts w (List.mem_cons_of_mem _ hw), hi, fun q hq => Or.inr hq, hN⟩ hK hP (hD0.self (sz := s.heap.size)) va_S.rf (lv_entry _ hlen)
theorem COk.go {l : Launch} {p : Program} {e : Env} {s : State} {m : MethodId} {args : Array Value} {below : List Frame} {meth : Method} {c : Code} {A : Nat → Prop} {H : Heap} {locs : List Loc} {la : Array Slot} {n : Nat}
    (k : COk M D N Q kc ks pc' lv st w tys) (C : kC M N A p s m args meth c) (hK : va_K D eCl tys s) (hP : va_P D eCl w H) (hD : va_D A w) (hS : va_S A s.heap H locs) (hL : lv_has la (eNL M) lv) (hn : n = pc') :
    W p l e (eRm M) s m args below meth c H locs kc ks (MQ below (kQ D A Q) args s (eRm M).cells (eRm M).slots A) (F0 m n la st) := by
  subst hn
  exact k l p e s m args below meth c A H locs la C hK hP hD hS hL
theorem co_ald {k : Fin 4} {x : Nat} (j : Nat) (hd : decode (eCode M) pc = .ok (.aload_n k, 1)) (hn : pc + 1 = pc') (hl : lv[j]? = some (k.val, .ref x)) (K : COk M D N Q kc ks pc' lv (.ref x :: st) w tys) : COk M D N Q kc ks pc lv st w tys := by
  intro l p e s m args below meth c A H locs la C hK hP hD hS hL
  exact lv_aload_n C.2.1 C.2.2.1 hd rfl (lv_at hL j hl) (COk.go K C hK hP hD hS hL hn)
theorem co_ild {k : Fin 4} {x : Int32} (j : Nat) (hd : decode (eCode M) pc = .ok (.iload_n k, 1)) (hn : pc + 1 = pc') (hl : lv[j]? = some (k.val, .int x)) (K : COk M D N Q kc ks pc' lv (.int x :: st) w tys) : COk M D N Q kc ks pc lv st w tys := by
  intro l p e s m args below meth c A H locs la C hK hP hD hS hL
  exact lv_iload_n C.2.1 C.2.2.1 hd rfl (lv_at hL j hl) (COk.go K C hK hP hD hS hL hn)
theorem co_ic {z : Int} (v : Int32) (hd : decode (eCode M) pc = .ok (.iconst z, 1)) (hn : pc + 1 = pc') (hv : Int32.ofInt z = v) (K : COk M D N Q kc ks pc' lv (.int v :: st) w tys) : COk M D N Q kc ks pc lv st w tys := by
  intro l p e s m args below meth c A H locs la C hK hP hD hS hL
  exact lv_iconst C.2.1 C.2.2.1 hd hv (COk.go K C hK hP hD hS hL hn)
theorem co_bp {z : Int} (v : Int32) (hd : decode (eCode M) pc = .ok (.bipush z, 2)) (hn : pc + 2 = pc') (hv : (Int8.ofInt z).toInt32 = v) (K : COk M D N Q kc ks pc' lv (.int v :: st) w tys) : COk M D N Q kc ks pc lv st w tys := by
  intro l p e s m args below meth c A H locs la C hK hP hD hS hL
  exact lv_bipush C.2.1 C.2.2.1 hd hv (COk.go K C hK hP hD hS hL hn)
theorem co_sp {z : Int} (v : Int32) (hd : decode (eCode M) pc = .ok (.sipush z, 3)) (hn : pc + 3 = pc') (hv : (Int16.ofInt z).toInt32 = v) (K : COk M D N Q kc ks pc' lv (.int v :: st) w tys) : COk M D N Q kc ks pc lv st w tys := by
  intro l p e s m args below meth c A H locs la C hK hP hD hS hL
  exact lv_sipush C.2.1 C.2.2.1 hd hv (COk.go K C hK hP hD hS hL hn)
theorem co_lc {z : Fin 2} (v : Int64) (hd : decode (eCode M) pc = .ok (.lconst z, 1)) (hn : pc + 1 = pc') (hv : Int64.ofNat z.val = v) (K : COk M D N Q kc ks pc' lv (.long v :: st) w tys) : COk M D N Q kc ks pc lv st w tys := by
  intro l p e s m args below meth c A H locs la C hK hP hD hS hL
  exact lv_lconst C.2.1 C.2.2.1 hd hv (COk.go K C hK hP hD hS hL hn)
theorem co_dup {v : Value} (hd : decode (eCode M) pc = .ok (.dup, 1)) (hn : pc + 1 = pc') (hv : v.category = 1) (K : COk M D N Q kc ks pc' lv (v :: v :: st) w tys) : COk M D N Q kc ks pc lv (v :: st) w tys := by
  intro l p e s m args below meth c A H locs la C hK hP hD hS hL
  exact lv_dup C.2.1 C.2.2.1 hd hv (COk.go K C hK hP hD hS hL hn)
theorem co_obj {x a : Nat} (hd : decode (eCode M) pc = .ok (.invokespecial x, 3)) (hn : pc + 3 = pc') (h1 : Cond.methodLink (eOwn M) x Lib.objectInit ∈ eTbl) (h2 : Cond.instanceMethod Lib.objectInit ∈ eTbl) (h3 : Cond.code Lib.objectInit ⟨#[0xb1]⟩ 1 none ∈ eTbl) (hf : 1 ≤ (eRm M).frames) (hl : 12 ≤ (eRm M).locals) (K : COk M D N Q kc ks pc' lv [] w tys) : COk M D N Q kc ks pc lv [.ref a] w tys := by
  intro l p e s m args below meth c A H locs la C hK hP hD hS hL
  refine W.objInit C.2.1 C.2.2.1 C.2.2.2.2.2.2.1 (C.2.2.2.2.2.2.2.1 _ h1) (C.2.2.2.2.2.2.2.1 _ h2) (C.2.2.2.2.2.2.2.1 _ h3) rfl (by rw [C.2.2.2.1]; exact hL.1) rfl hd hf (by show 2 * 0 + 0 + 12 ≤ _; omega) ?_
  refine W.eq (g2 := F0 m (pc + 3) la []) rfl ?_
  exact COk.go K C hK hP hD hS hL hn
theorem co_newi {n : Int32} (N' : Nat) (hd : decode (eCode M) pc = .ok (.newarray .int, 2)) (hn : pc + 2 = pc') (hw : Cond.arrayClass .int ∈ eTbl) (h0 : ¬ n < 0) (hN : n.toNatClampNeg = N') (hb : N' ≤ 100000) (hc : kc + 1 ≤ (eRm M).cells) (hs : ks + N' ≤ (eRm M).slots)
    (K : ∀ (q : Nat) (cA : ClassId), COk M D N Q (kc + 1) (ks + N') pc' lv (.ref q :: st) (w ++ [(q, .inl (cA, N', .inl (fun _ => 0)))]) (tys ++ [(cA, .int)])) : COk M D N Q kc ks pc lv (.int n :: st) w tys := by
  intro l p e s m args below meth c A H locs la C hK hP hD hS hL
  exact va_newa (atype := .int) (a0 := (N', .inl (fun _ => 0))) C.2.1 C.2.2.1 (C.2.2.2.2.2.2.2.1 _ hw) rfl hK hP hD hS C.2.2.2.2.2.2.2.2.2.1 (fun _ => rfl) h0 hN (by show N' * 4 ≤ _; omega) hc hs hd (fun q cA H1 hK1 hP1 hD1 hS1 => COk.go (K q cA) C hK1 hP1 hD1 hS1 hL hn)
theorem co_newl {n : Int32} (N' : Nat) (hd : decode (eCode M) pc = .ok (.newarray .long, 2)) (hn : pc + 2 = pc') (hw : Cond.arrayClass .long ∈ eTbl) (h0 : ¬ n < 0) (hN : n.toNatClampNeg = N') (hb : N' ≤ 100000) (hc : kc + 1 ≤ (eRm M).cells) (hs : ks + N' ≤ (eRm M).slots)
    (K : ∀ (q : Nat) (cA : ClassId), COk M D N Q (kc + 1) (ks + N') pc' lv (.ref q :: st) (w ++ [(q, .inl (cA, N', .inr (.inl (fun _ => 0))))]) (tys ++ [(cA, .long)])) : COk M D N Q kc ks pc lv (.int n :: st) w tys := by
  intro l p e s m args below meth c A H locs la C hK hP hD hS hL
  exact va_newa (atype := .long) (a0 := (N', .inr (.inl (fun _ => 0)))) C.2.1 C.2.2.1 (C.2.2.2.2.2.2.2.1 _ hw) rfl hK hP hD hS C.2.2.2.2.2.2.2.2.2.1 (fun _ => rfl) h0 hN (by show N' * 8 ≤ _; omega) hc hs hd (fun q cA H1 hK1 hP1 hD1 hS1 => COk.go (K q cA) C hK1 hP1 hD1 hS1 hL hn)
theorem co_newz {n : Int32} (N' : Nat) (hd : decode (eCode M) pc = .ok (.newarray .boolean, 2)) (hn : pc + 2 = pc') (hw : Cond.arrayClass .boolean ∈ eTbl) (h0 : ¬ n < 0) (hN : n.toNatClampNeg = N') (hb : N' ≤ 100000) (hc : kc + 1 ≤ (eRm M).cells) (hs : ks + N' ≤ (eRm M).slots)
    (K : ∀ (q : Nat) (cA : ClassId), COk M D N Q (kc + 1) (ks + N') pc' lv (.ref q :: st) (w ++ [(q, .inl (cA, N', .inl (fun _ => 0)))]) (tys ++ [(cA, .boolean)])) : COk M D N Q kc ks pc lv (.int n :: st) w tys := by
  intro l p e s m args below meth c A H locs la C hK hP hD hS hL
  exact va_newa (atype := .boolean) (a0 := (N', .inl (fun _ => 0))) C.2.1 C.2.2.1 (C.2.2.2.2.2.2.2.1 _ hw) rfl hK hP hD hS C.2.2.2.2.2.2.2.2.2.1 (fun _ => rfl) h0 hN (by show N' * 1 ≤ _; omega) hc hs hd (fun q cA H1 hK1 hP1 hD1 hS1 => COk.go (K q cA) C hK1 hP1 hD1 hS1 hL hn)
theorem co_newq {n : Int32} {x : Nat} (Cn : String) (N' : Nat) (hd : decode (eCode M) pc = .ok (.anewarray x, 3)) (hn : pc + 3 = pc') (hw : Cond.classLink (eOwn M) x Cn ∈ eTbl) (hA : ∀ U, N U → va_AO Cn U) (h0 : ¬ n < 0) (hN : n.toNatClampNeg = N') (hb : N' ≤ 100000) (hc : kc + 1 ≤ (eRm M).cells) (hs : ks + N' ≤ (eRm M).slots)
    (K : ∀ (q : Nat) (cA : ClassId), COk M D N Q (kc + 1) (ks + N') pc' lv (.ref q :: st) (w ++ [(q, .inl (cA, N', .inr (.inr (.inr (.inr (fun _ => none))))))]) (tys ++ [(cA, .object Cn)])) : COk M D N Q kc ks pc lv (.int n :: st) w tys := by
  intro l p e s m args below meth c A H locs la C hK hP hD hS hL
  exact va_newq C.2.1 C.2.2.1 C.2.2.2.2.2.2.1 (C.2.2.2.2.2.2.2.1 _ hw) (hA s C.2.2.2.2.2.2.2.2.2.2) hK hP hD hS C.2.2.2.2.2.2.2.2.2.1 h0 hN (by omega) hc hs hd (fun q cA H1 hK1 hP1 hD1 hS1 => COk.go (K q cA) C hK1 hP1 hD1 hS1 hL hn)
theorem co_putF {x ci k : Nat} {kz : Int} {v : Value} {fs : List Value} {w' : va_W} {ty : FieldType} (hd : decode (eCode M) pc = .ok (.putfield x, 3)) (hn : pc + 3 = pc') (hf : eFk (eOwn M) x ci k kz) (hfin : (((eCl.getD ci ("", fun _ => ("", "", "", false), 0)).2.1) k).2.2.2 = true) (hdecl : (((eCl.getD ci ("", fun _ => ("", "", "", false), 0)).2.1) k).1 = eOwn M) (hty : parseFieldDescriptor (((eCl.getD ci ("", fun _ => ("", "", "", false), 0)).2.1) k).2.2.1 = some ty) (hnar : narrow ty v = v) (hfit : fits ty v = true) (hl : k < fs.length)
    (K : COk M D N Q kc ks pc' lv st ((h0, .inr (ci, fs.set k v)) :: w') tys) : COk M D N Q kc ks pc lv (v :: .ref h0 :: st) ((h0, .inr (ci, fs)) :: w') tys := by
  intro l p e s m args below meth c A H locs la C hK hP hD hS hL
  obtain ⟨q, q1, q2, q3, q4, rfl⟩ := hf
  have hq : eCl.getD ci ("", fun _ => ("", "", "", false), 0) = q := by rw [List.getD_eq_getElem?_getD, q1]; rfl
  rw [hq] at hfin hty hdecl
  exact va_putF C.2.1 C.2.2.1 C.2.2.2.2.2.2.2.1 (eCl_in q1) (eTyOf.getD ci (fun _ => .int)) (eCl_ty ci q4 q q1) (eCl_nm ci q4 q q1) C.2.2.2.2.2.2.1 hK hP hD hS 0 rfl q1 k q3 (C.2.2.2.2.2.2.2.1 _ q2) (fun x h => h) hfin C.2.2.2.2.2.2.2.2.1 hdecl hty hnar hfit hl hd (fun H1 locs1 hP1 hD1 hS1 => COk.go K C hK hP1 hD1 hS1 hL hn)
theorem co_put {x ci k : Nat} {kz : Int} {v : Value} {fs : List Value} {w' : va_W} {ty : FieldType} (hd : decode (eCode M) pc = .ok (.putfield x, 3)) (hn : pc + 3 = pc') (hf : eFk (eOwn M) x ci k kz) (hfin : (((eCl.getD ci ("", fun _ => ("", "", "", false), 0)).2.1) k).2.2.2 = false) (hty : parseFieldDescriptor (((eCl.getD ci ("", fun _ => ("", "", "", false), 0)).2.1) k).2.2.1 = some ty) (hnar : narrow ty v = v) (hfit : fits ty v = true) (hl : k < fs.length)
    (K : COk M D N Q kc ks pc' lv st ((h0, .inr (ci, fs.set k v)) :: w') tys) : COk M D N Q kc ks pc lv (v :: .ref h0 :: st) ((h0, .inr (ci, fs)) :: w') tys := by
  intro l p e s m args below meth c A H locs la C hK hP hD hS hL
  obtain ⟨q, q1, q2, q3, q4, rfl⟩ := hf
  have hq : eCl.getD ci ("", fun _ => ("", "", "", false), 0) = q := by rw [List.getD_eq_getElem?_getD, q1]; rfl
  rw [hq] at hfin hty
  exact va_put C.2.1 C.2.2.1 C.2.2.2.2.2.2.2.1 (eCl_in q1) (eTyOf.getD ci (fun _ => .int)) (eCl_ty ci q4 q q1) (eCl_nm ci q4 q q1) C.2.2.2.2.2.2.1 hK hP hD hS 0 rfl q1 k q3 (C.2.2.2.2.2.2.2.1 _ q2) (fun x h => h) hfin hty hnar hfit hl hd (fun H1 locs1 hP1 hD1 hS1 => COk.go K C hK hP1 hD1 hS1 hL hn)
theorem co_get {x ci k : Nat} {kz : Int} (v : Value) {fs : List Value} {w' : va_W} (hd : decode (eCode M) pc = .ok (.getfield x, 3)) (hn : pc + 3 = pc') (hf : eFk (eOwn M) x ci k kz) (hv : fs[k]? = some v)
    (K : COk M D N Q kc ks pc' lv (v :: st) ((h0, .inr (ci, fs)) :: w') tys) : COk M D N Q kc ks pc lv (.ref h0 :: st) ((h0, .inr (ci, fs)) :: w') tys := by
  intro l p e s m args below meth c A H locs la C hK hP hD hS hL
  obtain ⟨q, q1, q2, q3, q4, rfl⟩ := hf
  exact va_get C.2.1 C.2.2.1 C.2.2.2.2.2.2.2.1 (eCl_in q1) C.2.2.2.2.2.2.1 hK hP 0 rfl q1 k q3 (C.2.2.2.2.2.2.2.1 _ q2) (fun x h => h) hv hd (COk.go K C hK hP hD hS hL hn)
theorem co_new {x ci : Nat} (fs : List Value) (hd : decode (eCode M) pc = .ok (.new x, 3)) (hn : pc + 3 = pc') (q : vw_C) (hc : eCl[ci]? = some q) (hci : ci < 11) (h1 : Cond.classLink (eOwn M) x q.1 ∈ eTbl) (h2 : Cond.instantiable q.1 q.2.2 ∈ eTbl) (h3 : Cond.initialized q.1 ∈ eTbl) (hfs : ∀ j, j < q.2.2 → defaultValue ((eTyOf.getD ci (fun _ => .int)) j) = vp_V fs j) (hcc : kc + 1 ≤ (eRm M).cells) (hs : ks + q.2.2 ≤ (eRm M).slots)
    (K : ∀ a : Nat, COk M D N Q (kc + 1) (ks + q.2.2) pc' lv (.ref a :: st) (w ++ [(a, .inr (ci, fs))]) tys) : COk M D N Q kc ks pc lv st w tys := by
  intro l p e s m args below meth c A H locs la C hK hP hD hS hL
  obtain ⟨Cn, T, n⟩ := q
  exact va_new C.2.1 C.2.2.1 C.2.2.2.2.2.2.2.1 (eCl_in hc) (eTyOf.getD ci (fun _ => .int)) (eCl_ty ci hci _ hc) C.2.2.2.2.2.2.1 (C.2.2.2.2.2.2.2.1 _ h1) (C.2.2.2.2.2.2.2.1 _ h2) (C.2.2.2.2.2.2.2.1 _ h3) hK hP hD hS C.2.2.2.2.2.2.2.2.2.1 hc hfs hcc hs hd (fun a H1 hP1 hD1 hS1 => COk.go (K a) C hK hP1 hD1 hS1 hL hn)
theorem va_P.lef {D : va_G} {cl : List vw_C} {a b : va_W} {H : Heap} (h : va_P D cl (a ++ b) H) : va_P D cl a H := fun k q hk => h k q (by rw [List.getElem?_append_left (List.getElem?_eq_some_iff.mp hk).1]; exact hk)
theorem va_P.rig {D : va_G} {cl : List vw_C} {a b : va_W} {H : Heap} (h : va_P D cl (a ++ b) H) : va_P D cl b H := fun k q hk => h (a.length + k) q (by rw [List.getElem?_append_right (by omega), Nat.add_sub_cancel_left]; exact hk)
theorem va_D.lef {A : Nat → Prop} {a b : va_W} (h : va_D A (a ++ b)) : va_D A a := by
  have e : ∀ (k : Nat) (q : Nat × va_E), a[k]? = some q → (a ++ b)[k]? = some q := fun k q hk => by rw [List.getElem?_append_left (List.getElem?_eq_some_iff.mp hk).1]; exact hk
  exact ⟨fun i j p q hp hq hpq => h.1 i j p q (e i p hp) (e j q hq) hpq, fun k q hk => h.2 k q (e k q hk)⟩
theorem va_D.rig {A : Nat → Prop} {a b : va_W} (h : va_D A (a ++ b)) : va_D A b := by
  have e : ∀ (k : Nat) (q : Nat × va_E), b[k]? = some q → (a ++ b)[a.length + k]? = some q := fun k q hk => by rw [List.getElem?_append_right (by omega), Nat.add_sub_cancel_left]; exact hk
  exact ⟨fun i j p q hp hq hpq => by have := h.1 _ _ p q (e i p hp) (e j q hq) hpq; omega, fun k q hk => h.2 _ q (e k q hk)⟩
theorem va_D.apt {A : Nat → Prop} {a b : va_W} (h : va_D A (a ++ b)) {i j : Nat} {p q : Nat × va_E} (hp : a[i]? = some p) (hq : b[j]? = some q) : p.1 ≠ q.1 := fun e => by
  have hi := (List.getElem?_eq_some_iff.mp hp).1
  have := h.1 i (a.length + j) p q (by rw [List.getElem?_append_left hi]; exact hp) (by rw [List.getElem?_append_right (by omega), Nat.add_sub_cancel_left]; exact hq) e
  omega
/-- behind a call on the last cells: what came back stands in their place, the rest is unchanged -/
theorem k_join {A0 : Nat → Prop} {D : va_G} {cl : List vw_C} {w0 wc w1 : va_W} {H H1 : Heap} (hP : va_P D cl (w0 ++ wc) H) (hD : va_D A0 (w0 ++ wc)) (hk : ∀ q : Nat, q < H.size → ¬ va_A wc H.size q → H1[q]? = H[q]?) (hF : ∀ q, va_A wc H.size q → A0 q) (hP1 : va_P D cl w1 H1) (hD1 : va_D (va_A wc H.size) w1) : va_P D cl (w0 ++ w1) H1 ∧ va_D A0 (w0 ++ w1) := by
  have nA : ∀ (k : Nat) (q : Nat × va_E), w0[k]? = some q → ¬ va_A wc H.size q.1 := by
    intro k q hq h
    rcases h with ⟨j, e, hj⟩ | h
    · exact hD.apt hq hj rfl
    · have := (hP.lef k q hq).lt
      omega
  refine ⟨(hP.lef.kept (fun k q hq => hk q.1 ((hP.lef k q hq).lt) (nA k q hq))).app hP1, hD.lef.app (hD1.weaken (fun k q hq h => hF _ h)) (fun i j p q hp hq e => nA i p hp (by rw [e]; exact hD1.2 j q hq))⟩
theorem k_free {A0 : Nat → Prop} {w0 wc : va_W} {H0 H : Heap} {locs : List Loc} (hD : va_D A0 (w0 ++ wc)) (hS : va_S A0 H0 H locs) (hA : ∀ q, H0.size ≤ q → A0 q) : ∀ q, va_A wc H.size q → A0 q := by
  intro q h
  rcases h with ⟨j, e, hj⟩ | h
  · exact hD.rig.2 j _ hj
  · exact hA q (Nat.le_trans hS.1 h)
theorem va_K.app0 {D : va_G} {cl : List vw_C} {tys : kT} {s : State} (h : va_K D cl tys s) : va_K D cl [] s := ⟨h.1, fun k q hk => by simp at hk⟩
/-- a call of another class's constructor on the newest object -/
theorem co_call {x q : Nat} {M' : eM} {N2 : State → Prop} {Q2 : va_W → kT → Prop} {As : List Value} {e0 : va_E} {st0 : List Value} (hd : decode (eCode M) pc = .ok (.invokespecial x, 3)) (hn : pc + 3 = pc') (hM : CM M' D N2 q As e0 Q2) (hl : Cond.methodLink (eOwn M) x (eNm M') ∈ eTbl) (hini : Cond.initialized (eNm M').cls ∈ eTbl) (hi : Cond.instanceMethod (eNm M') ∈ eTbl) (hy : (eNm M').name = "<init>")
    (hy2 : (eNm M').cls ≠ "java/lang/invoke/MethodHandle" ∧ (eNm M').cls ≠ "java/lang/invoke/VarHandle" ∧ (parseMethodDescriptor (eNm M').desc).map (fun d => d.parameters.length) = some As.length) (hr : (eRm M').frames + 1 ≤ (eRm M).frames ∧ 8 + (eNL M' + 11) + (eRm M').locals ≤ (eRm M).locals) (hst : st0 = As.reverse ++ .ref q :: st) (hw : (st.map fun v => v.category).sum ≤ 8) (hcc : kc + (eRm M').cells ≤ (eRm M).cells ∧ ks + (eRm M').slots ≤ (eRm M).slots)
    (hN : ∀ (s U : State), N s → s.WarmedH U.vm → N2 U) (hB : ∀ (a : Array Value) (U : State) g mk, N2 U → N2 (U.calling g mk a))
    (K : ∀ w1 t1, Q2 w1 t1 → COk M D N Q (kc + (eRm M').cells) (ks + (eRm M').slots) pc' lv st (w ++ w1) (tys ++ t1)) : COk M D N Q kc ks pc lv st0 (w ++ [(q, e0)]) tys := by
  intro l p e s m args below meth c A H locs la C hK hP hD hS hL
  subst hst
  have hts := C.2.2.2.2.2.2.2.1
  have hg : GoodIn eTbl (eWs M') := eGoodIn fun w hw => by
    rcases List.mem_cons.mp hw with rfl | hw
    · exact hM.1.2.1
    · exact hw
  have hw0 : eWs M' = Cond.code (eNm M') (eCode M') (eNL M') none :: eTbl := by unfold eWs; rw [hM.1.2.2.2.2]
  have hFc := k_free hD hS C.2.2.2.2.2.2.2.2.2.1
  refine va_callv (S := va_W × kT) (post := fun u => Q2 u.1 u.2) (B := fun u t => va_P D eCl u.1 t.heap ∧ va_K D eCl u.2 t ∧ va_D (va_A [(q, e0)] H.size) u.1) (va_runI (As := As) (rest := st) (n := As.length) ⟨C.2.1, C.2.2.1, C.2.2.2.1, C.2.2.2.2.2.2.1, hts⟩ (hM.2 l H.size) (cwI As.length hts hg hw0 rfl rfl (hts _ hini) (hts _ hl) (hts _ hi) hy hy2 hr) ⟨fun a U g mk z => ?_, fun U hU hW => ?_⟩ rfl rfl hL.1 rfl (lv_room hw) hd hcc) hS (fun z _ h => hFc z h) hFc (fun u t H1 locs1 ht hvm hq hB1 hz1 hk1 hS1 => ?_)
  · obtain ⟨z0, z1, zP, zK, zD, zN⟩ := z
    exact ⟨z0, z1, zP, va_K.moved (u := U) (U := U.calling g mk a) (Vm.Alike.refl U.vm) zK, zD, hB a U g mk zN⟩
  · exact ⟨rfl, by rw [hU], by rw [hU]; exact hP.rig, va_K.moved hW.alike hK.app0, hD.rig.weaken (fun _ _ _ _ => trivial), hN s U C.2.2.2.2.2.2.2.2.2.2 hW⟩
  · obtain ⟨hP1, hK1, hD1⟩ := hB1
    rw [ht] at hP1
    obtain ⟨hP2, hD2⟩ := k_join hP hD hk1 hFc hP1 hD1
    exact COk.go (K u.1 u.2 hq) C (hK.app (va_K.moved hvm.symm hK1)) hP2 hD2 hS1 hL hn
theorem co_callN {x q : Nat} {M' : eM} {N2 : State → Prop} {Q2 : va_W → kT → Prop} {As : List Value} {e0 : va_E} {st0 : List Value} (host : String) (hd : decode (eCode M) pc = .ok (.invokespecial x, 3)) (hn : pc + 3 = pc') (hM : CM M' D N2 q As e0 Q2) (hl : ∀ U, N U → va_Nw (.methodLinkNest (eOwn M) x (eNm M') host) U) (hini : Cond.initialized (eNm M').cls ∈ eTbl) (hi : Cond.instanceMethod (eNm M') ∈ eTbl) (hy : (eNm M').name = "<init>")
    (hy2 : (eNm M').cls ≠ "java/lang/invoke/MethodHandle" ∧ (eNm M').cls ≠ "java/lang/invoke/VarHandle" ∧ (parseMethodDescriptor (eNm M').desc).map (fun d => d.parameters.length) = some As.length) (hr : (eRm M').frames + 1 ≤ (eRm M).frames ∧ 8 + (eNL M' + 11) + (eRm M').locals ≤ (eRm M).locals) (hst : st0 = As.reverse ++ .ref q :: st) (hw : (st.map fun v => v.category).sum ≤ 8) (hcc : kc + (eRm M').cells ≤ (eRm M).cells ∧ ks + (eRm M').slots ≤ (eRm M).slots)
    (hN : ∀ (s U : State), N s → s.WarmedH U.vm → N2 U) (hB : ∀ (a : Array Value) (U : State) g mk, N2 U → N2 (U.calling g mk a))
    (K : ∀ w1 t1, Q2 w1 t1 → COk M D N Q (kc + (eRm M').cells) (ks + (eRm M').slots) pc' lv st (w ++ w1) (tys ++ t1)) : COk M D N Q kc ks pc lv st0 (w ++ [(q, e0)]) tys := by
  intro l p e s m args below meth c A H locs la C hK hP hD hS hL
  subst hst
  have hts := C.2.2.2.2.2.2.2.1
  have hg : GoodIn eTbl (eWs M') := eGoodIn fun w hw => by
    rcases List.mem_cons.mp hw with rfl | hw
    · exact hM.1.2.1
    · exact hw
  have hw0 : eWs M' = Cond.code (eNm M') (eCode M') (eNL M') none :: eTbl := by unfold eWs; rw [hM.1.2.2.2.2]
  have hFc := k_free hD hS C.2.2.2.2.2.2.2.2.2.1
  refine va_callv (S := va_W × kT) (post := fun u => Q2 u.1 u.2) (B := fun u t => va_P D eCl u.1 t.heap ∧ va_K D eCl u.2 t ∧ va_D (va_A [(q, e0)] H.size) u.1) (va_runIN (host := host) (As := As) (rest := st) (n := As.length) ⟨C.2.1, C.2.2.1, C.2.2.2.1, C.2.2.2.2.2.2.1, hts⟩ (hM.2 l H.size) ⟨va_cnB As.length hts hg hw0 rfl rfl (hl s C.2.2.2.2.2.2.2.2.2.2) (hts _ hini) hy2 hr, hy, hts _ hi⟩ ⟨fun a U g mk z => ?_, fun U hU hW => ?_⟩ rfl rfl hL.1 rfl (lv_room hw) hd hcc) hS (fun z _ h => hFc z h) hFc (fun u t H1 locs1 ht hvm hq hB1 hz1 hk1 hS1 => ?_)
  · obtain ⟨z0, z1, zP, zK, zD, zN⟩ := z
    exact ⟨z0, z1, zP, va_K.moved (u := U) (U := U.calling g mk a) (Vm.Alike.refl U.vm) zK, zD, hB a U g mk zN⟩
  · exact ⟨rfl, by rw [hU], by rw [hU]; exact hP.rig, va_K.moved hW.alike hK.app0, hD.rig.weaken (fun _ _ _ _ => trivial), hN s U C.2.2.2.2.2.2.2.2.2.2 hW⟩
  · obtain ⟨hP1, hK1, hD1⟩ := hB1
    rw [ht] at hP1
    obtain ⟨hP2, hD2⟩ := k_join hP hD hk1 hFc hP1 hD1
    exact COk.go (K u.1 u.2 hq) C (hK.app (va_K.moved hvm.symm hK1)) hP2 hD2 hS1 hL hn
theorem co_ret (hd : decode (eCode M) pc = .ok (.return_, 1)) (hc : kc = (eRm M).cells) (hs : ks = (eRm M).slots) (hQ : Q w tys) : COk M D N Q kc ks pc lv [] w tys := by
  intro l p e s m args below meth c A H locs la C hK hP hD hS hL
  subst hc; subst hs
  exact W.vret C.2.1 C.2.2.1 C.2.2.2.2.1 (fun t ht hW => ⟨⟨(w, tys), rfl, hQ, by rw [ht]; exact hP, va_K.moved hW.alike hK, hD⟩, hS.F ht⟩) hS.2.2 hd C.2.2.2.2.2.1
theorem co_ist {k : Fin 4} {x : Int32} (lv' : List (Nat × Value)) (hd : decode (eCode M) pc = .ok (.istore_n k, 1)) (hn : pc + 1 = pc') (hk : k.val < eNL M) (hl : (k.val, Value.int x) :: lv.filter (fun q => !(q.1 == k.val) && !(q.1 + 1 == k.val && q.2.category == 2)) = lv') (K : COk M D N Q kc ks pc' lv' st w tys) : COk M D N Q kc ks pc lv (.int x :: st) w tys := by
  intro l p e s m args below meth c A H locs la C hK hP hD hS hL
  exact lv_istore_n C.2.1 C.2.2.1 hd rfl hL hk hl (fun la' h' => COk.go K C hK hP hD hS h' hn)
theorem co_inc {i j : Nat} {n : Int} {x : Int32} (v : Int32) (lv' : List (Nat × Value)) (hd : decode (eCode M) pc = .ok (.iinc i n, 3)) (hn : pc + 3 = pc') (hk : lv[j]? = some (i, .int x)) (hv : x + Int32.ofInt n = v) (hi : i < eNL M) (hl : (i, Value.int v) :: lv.filter (fun q => !(q.1 == i) && !(q.1 + 1 == i && q.2.category == 2)) = lv') (K : COk M D N Q kc ks pc' lv' st w tys) : COk M D N Q kc ks pc lv st w tys := by
  intro l p e s m args below meth c A H locs la C hK hP hD hS hL
  exact lv_iinc C.2.1 C.2.2.1 hd hL hk hv hi hl (fun la' h' => COk.go K C hK hP hD hS h' hn)
theorem co_goto {off : Int} (hd : decode (eCode M) pc = .ok (.goto off, 3)) (ht : (pc : Int) + off = (tgt : Int)) (K : COk M D N Q kc ks tgt lv st w tys) : COk M D N Q kc ks pc lv st w tys := by
  intro l p e s m args below meth c A H locs la C hK hP hD hS hL
  exact lv_goto C.2.1 C.2.2.1 hd ht (COk.go K C hK hP hD hS hL rfl)
theorem co_geT {off : Int} {x y : Int32} (hd : decode (eCode M) pc = .ok (.if_icmp .ge off, 3)) (ht : (pc : Int) + off = (tgt : Int)) (h : y ≤ x) (K : COk M D N Q kc ks tgt lv st w tys) : COk M D N Q kc ks pc lv (.int y :: .int x :: st) w tys := by
  intro l p e s m args below meth c A H locs la C hK hP hD hS hL
  exact lv_icmp_ge C.2.1 C.2.2.1 hd ht (fun _ => COk.go K C hK hP hD hS hL rfl) (fun z => absurd h z)
theorem co_geF {off : Int} {x y : Int32} (hd : decode (eCode M) pc = .ok (.if_icmp .ge off, 3)) (hn : pc + 3 = pc') (ht : (pc : Int) + off = (tgt : Int)) (h : ¬ y ≤ x) (K : COk M D N Q kc ks pc' lv st w tys) : COk M D N Q kc ks pc lv (.int y :: .int x :: st) w tys := by
  intro l p e s m args below meth c A H locs la C hK hP hD hS hL
  exact lv_icmp_ge C.2.1 C.2.2.1 hd ht (fun z => absurd z h) (fun _ => COk.go K C hK hP hD hS hL hn)
theorem co_gtT {off : Int} {x y : Int32} (hd : decode (eCode M) pc = .ok (.if_icmp .gt off, 3)) (ht : (pc : Int) + off = (tgt : Int)) (h : y < x) (K : COk M D N Q kc ks tgt lv st w tys) : COk M D N Q kc ks pc lv (.int y :: .int x :: st) w tys := by
  intro l p e s m args below meth c A H locs la C hK hP hD hS hL
  exact lv_icmp_gt C.2.1 C.2.2.1 hd ht (fun _ => COk.go K C hK hP hD hS hL rfl) (fun z => absurd h z)
theorem co_gtF {off : Int} {x y : Int32} (hd : decode (eCode M) pc = .ok (.if_icmp .gt off, 3)) (hn : pc + 3 = pc') (ht : (pc : Int) + off = (tgt : Int)) (h : ¬ y < x) (K : COk M D N Q kc ks pc' lv st w tys) : COk M D N Q kc ks pc lv (.int y :: .int x :: st) w tys := by
  intro l p e s m args below meth c A H locs la C hK hP hD hS hL
  exact lv_icmp_gt C.2.1 C.2.2.1 hd ht (fun z => absurd z h) (fun _ => COk.go K C hK hP hD hS hL hn)
/-- a reference into an array of references -/
theorem co_astq {a v n : Nat} {i : Int32} {cA : ClassId} {f : Nat → Option Nat} {vs : List Value} (q0 t0 qk ci : Nat) (r : vw_C) (hd : decode (eCode M) pc = .ok (.aastore, 1)) (hn : pc + 1 = pc') (ha : w[q0]? = some (a, .inl (cA, n, .inr (.inr (.inr (.inr f)))))) (ht : tys[t0]? = some (cA, .object r.1)) (hv : w[qk]? = some (v, .inr (ci, vs))) (hc : eCl[ci]? = some r) (hin : vp_in i n)
    (K : COk M D N Q kc ks pc' lv st (w.set q0 (a, .inl (cA, n, .inr (.inr (.inr (.inr (va_up f i.toNatClampNeg (some v)))))))) tys) : COk M D N Q kc ks pc lv (.ref v :: .int i :: .ref a :: st) w tys := by
  intro l p e s m args below meth c A H locs la C hK hP hD hS hL
  exact va_astq C.2.1 C.2.2.1 hK hP hD hS q0 t0 qk ci ha ht hv hc hin hd (fun H1 locs1 hP1 hD1 hS1 => COk.go K C hK hP1 hD1 hS1 hL hn)
theorem co_astQ {a v n : Nat} {i : Int32} {cA : ClassId} {f : Nat → Option Nat} {vs : List Value} (q0 t0 qk ci j : Nat) (r : vw_C) (hd : decode (eCode M) pc = .ok (.aastore, 1)) (hn : pc + 1 = pc') (ha : w[q0]? = some (a, .inl (cA, n, .inr (.inr (.inr (.inr f)))))) (ht : tys[t0]? = some (cA, .object r.1)) (hv : w[qk]? = some (v, .inr (ci, vs))) (hc : eCl[ci]? = some r) (hin : vp_in i n) (hj : i.toNatClampNeg = j)
    (K : COk M D N Q kc ks pc' lv st (w.set q0 (a, .inl (cA, n, .inr (.inr (.inr (.inr (va_up f j (some v)))))))) tys) : COk M D N Q kc ks pc lv (.ref v :: .int i :: .ref a :: st) w tys := by
  subst hj
  exact co_astq q0 t0 qk ci r hd hn ha ht hv hc hin K
end K1
end
section
theorem ap_at (a : va_W) (x : Nat × va_E) (r : va_W) : (a ++ (x :: r))[a.length]? = some x := by simp
def K_Tp : eM := (RX10, yX10_init, cX10_init, 1, none, { frames := 1, cells := 3, slots := 728, locals := 12 }, [(0, .aload_n 0, 1), (1, .invokespecial 3, 4), (4, .aload_n 0, 5), (5, .sipush 600, 8), (8, .newarray .int, 10), (10, .putfield 11, 13), (13, .aload_n 0, 14), (14, .bipush 64, 16), (16, .newarray .int, 18), (18, .putfield 15, 21), (21, .aload_n 0, 22), (22, .bipush 64, 24), (24, .newarray .int, 26), (26, .putfield 18, 29), (29, .aload_n 0, 30), (30, .iconst 0, 31), (31, .putfield 21, 34), (34, .aload_n 0, 35), (35, .iconst 0, 36), (36, .putfield 25, 39), (39, .aload_n 0, 40), (40, .iconst (-1), 41), (41, .putfield 28, 44), (44, .aload_n 0, 45), (45, .iconst 0, 46), (46, .putfield 31, 49), (49, .aload_n 0, 50), (50, .iconst 0, 51), (51, .putfield 34, 54), (54, .aload_n 0, 55), (55, .iconst 0, 56), (56, .putfield 37, 59), (59, .aload_n 0, 60), (60, .iconst 0, 61), (61, .putfield 40, 64), (64, .return_, 65)])
theorem ok_K_Tp : okN K_Tp := okN_of (by decide +kernel) (wd1 33 rfl rfl) rfl rfl rfl
theorem ny_Tp : (eNm K_Tp).cls ≠ "java/lang/invoke/MethodHandle" ∧ (eNm K_Tp).cls ≠ "java/lang/invoke/VarHandle" ∧ (parseMethodDescriptor (eNm K_Tp).desc).map (fun d => d.parameters.length) = some 0 := ⟨by decide +kernel, by decide +kernel, by decide +kernel⟩
def Q_Tp (h0 : Nat) : va_W → kT → Prop := fun w tys => ∃ (q0 : Nat) (c0 : ClassId) (q1 : Nat) (c1 : ClassId) (q2 : Nat) (c2 : ClassId), w = (h0, .inr (8, [.ref q0, .ref q1, .ref q2, .int 0, .int 0, .int (-1), .int 0, .int 0, .int 0, .int 0])) :: (q0, .inl (c0, 600, .inl (fun _ => 0))) :: (q1, .inl (c1, 64, .inl (fun _ => 0))) :: (q2, .inl (c2, 64, .inl (fun _ => 0))) :: [] ∧ tys = (c0, .int) :: (c1, .int) :: (c2, .int) :: []
set_option maxRecDepth 20000 in
theorem k_Tp (D : va_G) (h0 : Nat) : CM K_Tp D (fun _ => True) h0 [] (.inr (8, [.null, .null, .null, .int 0, .int 0, .int 0, .int 0, .int 0, .int 0, .int 0])) (Q_Tp h0) := by
  refine CM.of ok_K_Tp rfl (Nat.le_of_ble_eq_true rfl) ?_
  show COk _ _ _ _ _ _ _ [(0, .ref h0)] _ _ _
  refine co_ald 0 (ok_K_Tp.dec 0 rfl rfl) rfl rfl ?_
  refine co_obj (ok_K_Tp.dec 1 rfl rfl) rfl (wd1 34 rfl rfl) (wd1 25 rfl rfl) (wd1 26 rfl rfl) (Nat.le_of_ble_eq_true rfl) (Nat.le_of_ble_eq_true rfl) ?_
  refine co_ald 0 (ok_K_Tp.dec 2 rfl rfl) rfl rfl ?_
  refine co_sp (600) (ok_K_Tp.dec 3 rfl rfl) rfl (by decide) ?_
  refine co_newi 600 (ok_K_Tp.dec 4 rfl rfl) rfl (wd1 69 rfl rfl) (by decide) (by decide) (Nat.le_of_ble_eq_true rfl) (Nat.le_of_ble_eq_true rfl) (Nat.le_of_ble_eq_true rfl) (fun q0 c0 => ?_)
  show COk _ _ _ _ _ _ _ _ _ ((h0, .inr (8, [.null, .null, .null, .int 0, .int 0, .int 0, .int 0, .int 0, .int 0, .int 0])) :: (q0, .inl (c0, 600, .inl (fun _ => 0))) :: []) _
  refine co_putF (ty := .array .int) (v := .ref q0) (fs := [.null, .null, .null, .int 0, .int 0, .int 0, .int 0, .int 0, .int 0, .int 0]) (w' := (q0, .inl (c0, 600, .inl (fun _ => 0))) :: []) (ok_K_Tp.dec 5 rfl rfl) rfl fl_X10_11 rfl rfl rfl rfl rfl (Nat.le_of_ble_eq_true rfl) ?_
  show COk _ _ _ _ _ _ _ _ _ ((h0, .inr (8, [.ref q0, .null, .null, .int 0, .int 0, .int 0, .int 0, .int 0, .int 0, .int 0])) :: (q0, .inl (c0, 600, .inl (fun _ => 0))) :: []) _
  refine co_ald 0 (ok_K_Tp.dec 6 rfl rfl) rfl rfl ?_
  refine co_bp (64) (ok_K_Tp.dec 7 rfl rfl) rfl (by decide) ?_
  refine co_newi 64 (ok_K_Tp.dec 8 rfl rfl) rfl (wd1 69 rfl rfl) (by decide) (by decide) (Nat.le_of_ble_eq_true rfl) (Nat.le_of_ble_eq_true rfl) (Nat.le_of_ble_eq_true rfl) (fun q1 c1 => ?_)
  show COk _ _ _ _ _ _ _ _ _ ((h0, .inr (8, [.ref q0, .null, .null, .int 0, .int 0, .int 0, .int 0, .int 0, .int 0, .int 0])) :: (q0, .inl (c0, 600, .inl (fun _ => 0))) :: (q1, .inl (c1, 64, .inl (fun _ => 0))) :: []) _
  refine co_putF (ty := .array .int) (v := .ref q1) (fs := [.ref q0, .null, .null, .int 0, .int 0, .int 0, .int 0, .int 0, .int 0, .int 0]) (w' := (q0, .inl (c0, 600, .inl (fun _ => 0))) :: (q1, .inl (c1, 64, .inl (fun _ => 0))) :: []) (ok_K_Tp.dec 9 rfl rfl) rfl fl_X10_15 rfl rfl rfl rfl rfl (Nat.le_of_ble_eq_true rfl) ?_
  show COk _ _ _ _ _ _ _ _ _ ((h0, .inr (8, [.ref q0, .ref q1, .null, .int 0, .int 0, .int 0, .int 0, .int 0, .int 0, .int 0])) :: (q0, .inl (c0, 600, .inl (fun _ => 0))) :: (q1, .inl (c1, 64, .inl (fun _ => 0))) :: []) _
  refine co_ald 0 (ok_K_Tp.dec 10 rfl rfl) rfl rfl ?_
  refine co_bp (64) (ok_K_Tp.dec 11 rfl rfl) rfl (by decide) ?_
  refine co_newi 64 (ok_K_Tp.dec 12 rfl rfl) rfl (wd1 69 rfl rfl) (by decide) (by decide) (Nat.le_of_ble_eq_true rfl) (Nat.le_of_ble_eq_true rfl) (Nat.le_of_ble_eq_true rfl) (fun q2 c2 => ?_)
  show COk _ _ _ _ _ _ _ _ _ ((h0, .inr (8, [.ref q0, .ref q1, .null, .int 0, .int 0, .int 0, .int 0, .int 0, .int 0, .int 0])) :: (q0, .inl (c0, 600, .inl (fun _ => 0))) :: (q1, .inl (c1, 64, .inl (fun _ => 0))) :: (q2, .inl (c2, 64, .inl (fun _ => 0))) :: []) _
  refine co_putF (ty := .array .int) (v := .ref q2) (fs := [.ref q0, .ref q1, .null, .int 0, .int 0, .int 0, .int 0, .int 0, .int 0, .int 0]) (w' := (q0, .inl (c0, 600, .inl (fun _ => 0))) :: (q1, .inl (c1, 64, .inl (fun _ => 0))) :: (q2, .inl (c2, 64, .inl (fun _ => 0))) :: []) (ok_K_Tp.dec 13 rfl rfl) rfl fl_X10_18 rfl rfl rfl rfl rfl (Nat.le_of_ble_eq_true rfl) ?_
  show COk _ _ _ _ _ _ _ _ _ ((h0, .inr (8, [.ref q0, .ref q1, .ref q2, .int 0, .int 0, .int 0, .int 0, .int 0, .int 0, .int 0])) :: (q0, .inl (c0, 600, .inl (fun _ => 0))) :: (q1, .inl (c1, 64, .inl (fun _ => 0))) :: (q2, .inl (c2, 64, .inl (fun _ => 0))) :: []) _
  refine co_ald 0 (ok_K_Tp.dec 14 rfl rfl) rfl rfl ?_
  refine co_ic (0) (ok_K_Tp.dec 15 rfl rfl) rfl (by decide) ?_
  refine co_put (ty := .int) (v := .int 0) (fs := [.ref q0, .ref q1, .ref q2, .int 0, .int 0, .int 0, .int 0, .int 0, .int 0, .int 0]) (w' := (q0, .inl (c0, 600, .inl (fun _ => 0))) :: (q1, .inl (c1, 64, .inl (fun _ => 0))) :: (q2, .inl (c2, 64, .inl (fun _ => 0))) :: []) (ok_K_Tp.dec 16 rfl rfl) rfl fl_X10_21 rfl rfl rfl rfl (Nat.le_of_ble_eq_true rfl) ?_
  show COk _ _ _ _ _ _ _ _ _ ((h0, .inr (8, [.ref q0, .ref q1, .ref q2, .int 0, .int 0, .int 0, .int 0, .int 0, .int 0, .int 0])) :: (q0, .inl (c0, 600, .inl (fun _ => 0))) :: (q1, .inl (c1, 64, .inl (fun _ => 0))) :: (q2, .inl (c2, 64, .inl (fun _ => 0))) :: []) _
  refine co_ald 0 (ok_K_Tp.dec 17 rfl rfl) rfl rfl ?_
  refine co_ic (0) (ok_K_Tp.dec 18 rfl rfl) rfl (by decide) ?_
  refine co_put (ty := .int) (v := .int 0) (fs := [.ref q0, .ref q1, .ref q2, .int 0, .int 0, .int 0, .int 0, .int 0, .int 0, .int 0]) (w' := (q0, .inl (c0, 600, .inl (fun _ => 0))) :: (q1, .inl (c1, 64, .inl (fun _ => 0))) :: (q2, .inl (c2, 64, .inl (fun _ => 0))) :: []) (ok_K_Tp.dec 19 rfl rfl) rfl fl_X10_25 rfl rfl rfl rfl (Nat.le_of_ble_eq_true rfl) ?_
  show COk _ _ _ _ _ _ _ _ _ ((h0, .inr (8, [.ref q0, .ref q1, .ref q2, .int 0, .int 0, .int 0, .int 0, .int 0, .int 0, .int 0])) :: (q0, .inl (c0, 600, .inl (fun _ => 0))) :: (q1, .inl (c1, 64, .inl (fun _ => 0))) :: (q2, .inl (c2, 64, .inl (fun _ => 0))) :: []) _
  refine co_ald 0 (ok_K_Tp.dec 20 rfl rfl) rfl rfl ?_
  refine co_ic (-1) (ok_K_Tp.dec 21 rfl rfl) rfl (by decide) ?_
  refine co_put (ty := .int) (v := .int (-1)) (fs := [.ref q0, .ref q1, .ref q2, .int 0, .int 0, .int 0, .int 0, .int 0, .int 0, .int 0]) (w' := (q0, .inl (c0, 600, .inl (fun _ => 0))) :: (q1, .inl (c1, 64, .inl (fun _ => 0))) :: (q2, .inl (c2, 64, .inl (fun _ => 0))) :: []) (ok_K_Tp.dec 22 rfl rfl) rfl fl_X10_28 rfl rfl rfl rfl (Nat.le_of_ble_eq_true rfl) ?_
  show COk _ _ _ _ _ _ _ _ _ ((h0, .inr (8, [.ref q0, .ref q1, .ref q2, .int 0, .int 0, .int (-1), .int 0, .int 0, .int 0, .int 0])) :: (q0, .inl (c0, 600, .inl (fun _ => 0))) :: (q1, .inl (c1, 64, .inl (fun _ => 0))) :: (q2, .inl (c2, 64, .inl (fun _ => 0))) :: []) _
  refine co_ald 0 (ok_K_Tp.dec 23 rfl rfl) rfl rfl ?_
  refine co_ic (0) (ok_K_Tp.dec 24 rfl rfl) rfl (by decide) ?_
  refine co_put (ty := .int) (v := .int 0) (fs := [.ref q0, .ref q1, .ref q2, .int 0, .int 0, .int (-1), .int 0, .int 0, .int 0, .int 0]) (w' := (q0, .inl (c0, 600, .inl (fun _ => 0))) :: (q1, .inl (c1, 64, .inl (fun _ => 0))) :: (q2, .inl (c2, 64, .inl (fun _ => 0))) :: []) (ok_K_Tp.dec 25 rfl rfl) rfl fl_X10_31 rfl rfl rfl rfl (Nat.le_of_ble_eq_true rfl) ?_
  show COk _ _ _ _ _ _ _ _ _ ((h0, .inr (8, [.ref q0, .ref q1, .ref q2, .int 0, .int 0, .int (-1), .int 0, .int 0, .int 0, .int 0])) :: (q0, .inl (c0, 600, .inl (fun _ => 0))) :: (q1, .inl (c1, 64, .inl (fun _ => 0))) :: (q2, .inl (c2, 64, .inl (fun _ => 0))) :: []) _
  refine co_ald 0 (ok_K_Tp.dec 26 rfl rfl) rfl rfl ?_
  refine co_ic (0) (ok_K_Tp.dec 27 rfl rfl) rfl (by decide) ?_
  refine co_put (ty := .int) (v := .int 0) (fs := [.ref q0, .ref q1, .ref q2, .int 0, .int 0, .int (-1), .int 0, .int 0, .int 0, .int 0]) (w' := (q0, .inl (c0, 600, .inl (fun _ => 0))) :: (q1, .inl (c1, 64, .inl (fun _ => 0))) :: (q2, .inl (c2, 64, .inl (fun _ => 0))) :: []) (ok_K_Tp.dec 28 rfl rfl) rfl fl_X10_34 rfl rfl rfl rfl (Nat.le_of_ble_eq_true rfl) ?_
  show COk _ _ _ _ _ _ _ _ _ ((h0, .inr (8, [.ref q0, .ref q1, .ref q2, .int 0, .int 0, .int (-1), .int 0, .int 0, .int 0, .int 0])) :: (q0, .inl (c0, 600, .inl (fun _ => 0))) :: (q1, .inl (c1, 64, .inl (fun _ => 0))) :: (q2, .inl (c2, 64, .inl (fun _ => 0))) :: []) _
  refine co_ald 0 (ok_K_Tp.dec 29 rfl rfl) rfl rfl ?_
  refine co_ic (0) (ok_K_Tp.dec 30 rfl rfl) rfl (by decide) ?_
  refine co_put (ty := .int) (v := .int 0) (fs := [.ref q0, .ref q1, .ref q2, .int 0, .int 0, .int (-1), .int 0, .int 0, .int 0, .int 0]) (w' := (q0, .inl (c0, 600, .inl (fun _ => 0))) :: (q1, .inl (c1, 64, .inl (fun _ => 0))) :: (q2, .inl (c2, 64, .inl (fun _ => 0))) :: []) (ok_K_Tp.dec 31 rfl rfl) rfl fl_X10_37 rfl rfl rfl rfl (Nat.le_of_ble_eq_true rfl) ?_
  show COk _ _ _ _ _ _ _ _ _ ((h0, .inr (8, [.ref q0, .ref q1, .ref q2, .int 0, .int 0, .int (-1), .int 0, .int 0, .int 0, .int 0])) :: (q0, .inl (c0, 600, .inl (fun _ => 0))) :: (q1, .inl (c1, 64, .inl (fun _ => 0))) :: (q2, .inl (c2, 64, .inl (fun _ => 0))) :: []) _
  refine co_ald 0 (ok_K_Tp.dec 32 rfl rfl) rfl rfl ?_
  refine co_ic (0) (ok_K_Tp.dec 33 rfl rfl) rfl (by decide) ?_
  refine co_put (ty := .int) (v := .int 0) (fs := [.ref q0, .ref q1, .ref q2, .int 0, .int 0, .int (-1), .int 0, .int 0, .int 0, .int 0]) (w' := (q0, .inl (c0, 600, .inl (fun _ => 0))) :: (q1, .inl (c1, 64, .inl (fun _ => 0))) :: (q2, .inl (c2, 64, .inl (fun _ => 0))) :: []) (ok_K_Tp.dec 34 rfl rfl) rfl fl_X10_40 rfl rfl rfl rfl (Nat.le_of_ble_eq_true rfl) ?_
  show COk _ _ _ _ _ _ _ _ _ ((h0, .inr (8, [.ref q0, .ref q1, .ref q2, .int 0, .int 0, .int (-1), .int 0, .int 0, .int 0, .int 0])) :: (q0, .inl (c0, 600, .inl (fun _ => 0))) :: (q1, .inl (c1, 64, .inl (fun _ => 0))) :: (q2, .inl (c2, 64, .inl (fun _ => 0))) :: []) _
  exact co_ret (ok_K_Tp.dec 35 rfl rfl) rfl rfl ⟨q0, c0, q1, c1, q2, c2, rfl, by simp only [List.nil_append, List.cons_append, List.append_assoc]⟩
end
section
def K_Mk : eM := (RX2, yX2_init, cX2_init, 1, none, { frames := 1, cells := 1, slots := 64, locals := 12 }, [(0, .aload_n 0, 1), (1, .invokespecial 3, 4), (4, .aload_n 0, 5), (5, .bipush 64, 7), (7, .newarray .long, 9), (9, .putfield 9, 12), (12, .return_, 13)])
theorem ok_K_Mk : okN K_Mk := okN_of (by decide +kernel) (wd1 74 rfl rfl) rfl rfl rfl
theorem ny_Mk : (eNm K_Mk).cls ≠ "java/lang/invoke/MethodHandle" ∧ (eNm K_Mk).cls ≠ "java/lang/invoke/VarHandle" ∧ (parseMethodDescriptor (eNm K_Mk).desc).map (fun d => d.parameters.length) = some 0 := ⟨by decide +kernel, by decide +kernel, by decide +kernel⟩
def Q_Mk (h0 : Nat) : va_W → kT → Prop := fun w tys => ∃ (q0 : Nat) (c0 : ClassId), w = (h0, .inr (1, [.ref q0])) :: (q0, .inl (c0, 64, .inr (.inl (fun _ => 0)))) :: [] ∧ tys = (c0, .long) :: []
set_option maxRecDepth 20000 in
theorem k_Mk (D : va_G) (h0 : Nat) : CM K_Mk D (fun _ => True) h0 [] (.inr (1, [.null])) (Q_Mk h0) := by
  refine CM.of ok_K_Mk rfl (Nat.le_of_ble_eq_true rfl) ?_
  show COk _ _ _ _ _ _ _ [(0, .ref h0)] _ _ _
  refine co_ald 0 (ok_K_Mk.dec 0 rfl rfl) rfl rfl ?_
  refine co_obj (ok_K_Mk.dec 1 rfl rfl) rfl (wd1 75 rfl rfl) (wd1 25 rfl rfl) (wd1 26 rfl rfl) (Nat.le_of_ble_eq_true rfl) (Nat.le_of_ble_eq_true rfl) ?_
  refine co_ald 0 (ok_K_Mk.dec 2 rfl rfl) rfl rfl ?_
  refine co_bp (64) (ok_K_Mk.dec 3 rfl rfl) rfl (by decide) ?_
  refine co_newl 64 (ok_K_Mk.dec 4 rfl rfl) rfl (wd1 80 rfl rfl) (by decide) (by decide) (Nat.le_of_ble_eq_true rfl) (Nat.le_of_ble_eq_true rfl) (Nat.le_of_ble_eq_true rfl) (fun q0 c0 => ?_)
  show COk _ _ _ _ _ _ _ _ _ ((h0, .inr (1, [.null])) :: (q0, .inl (c0, 64, .inr (.inl (fun _ => 0)))) :: []) _
  refine co_putF (ty := .array .long) (v := .ref q0) (fs := [.null]) (w' := (q0, .inl (c0, 64, .inr (.inl (fun _ => 0)))) :: []) (ok_K_Mk.dec 5 rfl rfl) rfl fl_X2_9 rfl rfl rfl rfl rfl (Nat.le_of_ble_eq_true rfl) ?_
  show COk _ _ _ _ _ _ _ _ _ ((h0, .inr (1, [.ref q0])) :: (q0, .inl (c0, 64, .inr (.inl (fun _ => 0)))) :: []) _
  exact co_ret (ok_K_Mk.dec 6 rfl rfl) rfl rfl ⟨q0, c0, rfl, by simp only [List.nil_append, List.cons_append, List.append_assoc]⟩
end
section
def K_Ch : eM := (RX0, yX0_init, cX0_init, 1, none, { frames := 1, cells := 3, slots := 520, locals := 12 }, [(0, .aload_n 0, 1), (1, .invokespecial 3, 4), (4, .aload_n 0, 5), (5, .bipush 8, 7), (7, .newarray .int, 9), (9, .putfield 9, 12), (12, .aload_n 0, 13), (13, .sipush 256, 16), (16, .newarray .long, 18), (18, .putfield 15, 21), (21, .aload_n 0, 22), (22, .sipush 256, 25), (25, .newarray .int, 27), (27, .putfield 19, 30), (30, .aload_n 0, 31), (31, .iconst 0, 32), (32, .putfield 22, 35), (35, .return_, 36)])
theorem ok_K_Ch : okN K_Ch := okN_of (by decide +kernel) (wd1 85 rfl rfl) rfl rfl rfl
theorem ny_Ch : (eNm K_Ch).cls ≠ "java/lang/invoke/MethodHandle" ∧ (eNm K_Ch).cls ≠ "java/lang/invoke/VarHandle" ∧ (parseMethodDescriptor (eNm K_Ch).desc).map (fun d => d.parameters.length) = some 0 := ⟨by decide +kernel, by decide +kernel, by decide +kernel⟩
def Q_Ch (h0 : Nat) : va_W → kT → Prop := fun w tys => ∃ (q0 : Nat) (c0 : ClassId) (q1 : Nat) (c1 : ClassId) (q2 : Nat) (c2 : ClassId), w = (h0, .inr (0, [.ref q0, .ref q1, .ref q2, .int 0])) :: (q0, .inl (c0, 8, .inl (fun _ => 0))) :: (q1, .inl (c1, 256, .inr (.inl (fun _ => 0)))) :: (q2, .inl (c2, 256, .inl (fun _ => 0))) :: [] ∧ tys = (c0, .int) :: (c1, .long) :: (c2, .int) :: []
set_option maxRecDepth 20000 in
theorem k_Ch (D : va_G) (h0 : Nat) : CM K_Ch D (fun _ => True) h0 [] (.inr (0, [.null, .null, .null, .int 0])) (Q_Ch h0) := by
  refine CM.of ok_K_Ch rfl (Nat.le_of_ble_eq_true rfl) ?_
  show COk _ _ _ _ _ _ _ [(0, .ref h0)] _ _ _
  refine co_ald 0 (ok_K_Ch.dec 0 rfl rfl) rfl rfl ?_
  refine co_obj (ok_K_Ch.dec 1 rfl rfl) rfl (wd1 86 rfl rfl) (wd1 25 rfl rfl) (wd1 26 rfl rfl) (Nat.le_of_ble_eq_true rfl) (Nat.le_of_ble_eq_true rfl) ?_
  refine co_ald 0 (ok_K_Ch.dec 2 rfl rfl) rfl rfl ?_
  refine co_bp (8) (ok_K_Ch.dec 3 rfl rfl) rfl (by decide) ?_
  refine co_newi 8 (ok_K_Ch.dec 4 rfl rfl) rfl (wd1 69 rfl rfl) (by decide) (by decide) (Nat.le_of_ble_eq_true rfl) (Nat.le_of_ble_eq_true rfl) (Nat.le_of_ble_eq_true rfl) (fun q0 c0 => ?_)
  show COk _ _ _ _ _ _ _ _ _ ((h0, .inr (0, [.null, .null, .null, .int 0])) :: (q0, .inl (c0, 8, .inl (fun _ => 0))) :: []) _
  refine co_putF (ty := .array .int) (v := .ref q0) (fs := [.null, .null, .null, .int 0]) (w' := (q0, .inl (c0, 8, .inl (fun _ => 0))) :: []) (ok_K_Ch.dec 5 rfl rfl) rfl fl_X0_9 rfl rfl rfl rfl rfl (Nat.le_of_ble_eq_true rfl) ?_
  show COk _ _ _ _ _ _ _ _ _ ((h0, .inr (0, [.ref q0, .null, .null, .int 0])) :: (q0, .inl (c0, 8, .inl (fun _ => 0))) :: []) _
  refine co_ald 0 (ok_K_Ch.dec 6 rfl rfl) rfl rfl ?_
  refine co_sp (256) (ok_K_Ch.dec 7 rfl rfl) rfl (by decide) ?_
  refine co_newl 256 (ok_K_Ch.dec 8 rfl rfl) rfl (wd1 80 rfl rfl) (by decide) (by decide) (Nat.le_of_ble_eq_true rfl) (Nat.le_of_ble_eq_true rfl) (Nat.le_of_ble_eq_true rfl) (fun q1 c1 => ?_)
  show COk _ _ _ _ _ _ _ _ _ ((h0, .inr (0, [.ref q0, .null, .null, .int 0])) :: (q0, .inl (c0, 8, .inl (fun _ => 0))) :: (q1, .inl (c1, 256, .inr (.inl (fun _ => 0)))) :: []) _
  refine co_putF (ty := .array .long) (v := .ref q1) (fs := [.ref q0, .null, .null, .int 0]) (w' := (q0, .inl (c0, 8, .inl (fun _ => 0))) :: (q1, .inl (c1, 256, .inr (.inl (fun _ => 0)))) :: []) (ok_K_Ch.dec 9 rfl rfl) rfl fl_X0_15 rfl rfl rfl rfl rfl (Nat.le_of_ble_eq_true rfl) ?_
  show COk _ _ _ _ _ _ _ _ _ ((h0, .inr (0, [.ref q0, .ref q1, .null, .int 0])) :: (q0, .inl (c0, 8, .inl (fun _ => 0))) :: (q1, .inl (c1, 256, .inr (.inl (fun _ => 0)))) :: []) _
  refine co_ald 0 (ok_K_Ch.dec 10 rfl rfl) rfl rfl ?_
  refine co_sp (256) (ok_K_Ch.dec 11 rfl rfl) rfl (by decide) ?_
  refine co_newi 256 (ok_K_Ch.dec 12 rfl rfl) rfl (wd1 69 rfl rfl) (by decide) (by decide) (Nat.le_of_ble_eq_true rfl) (Nat.le_of_ble_eq_true rfl) (Nat.le_of_ble_eq_true rfl) (fun q2 c2 => ?_)
  show COk _ _ _ _ _ _ _ _ _ ((h0, .inr (0, [.ref q0, .ref q1, .null, .int 0])) :: (q0, .inl (c0, 8, .inl (fun _ => 0))) :: (q1, .inl (c1, 256, .inr (.inl (fun _ => 0)))) :: (q2, .inl (c2, 256, .inl (fun _ => 0))) :: []) _
  refine co_putF (ty := .array .int) (v := .ref q2) (fs := [.ref q0, .ref q1, .null, .int 0]) (w' := (q0, .inl (c0, 8, .inl (fun _ => 0))) :: (q1, .inl (c1, 256, .inr (.inl (fun _ => 0)))) :: (q2, .inl (c2, 256, .inl (fun _ => 0))) :: []) (ok_K_Ch.dec 13 rfl rfl) rfl fl_X0_19 rfl rfl rfl rfl rfl (Nat.le_of_ble_eq_true rfl) ?_
  show COk _ _ _ _ _ _ _ _ _ ((h0, .inr (0, [.ref q0, .ref q1, .ref q2, .int 0])) :: (q0, .inl (c0, 8, .inl (fun _ => 0))) :: (q1, .inl (c1, 256, .inr (.inl (fun _ => 0)))) :: (q2, .inl (c2, 256, .inl (fun _ => 0))) :: []) _
  refine co_ald 0 (ok_K_Ch.dec 14 rfl rfl) rfl rfl ?_
  refine co_ic (0) (ok_K_Ch.dec 15 rfl rfl) rfl (by decide) ?_
  refine co_put (ty := .int) (v := .int 0) (fs := [.ref q0, .ref q1, .ref q2, .int 0]) (w' := (q0, .inl (c0, 8, .inl (fun _ => 0))) :: (q1, .inl (c1, 256, .inr (.inl (fun _ => 0)))) :: (q2, .inl (c2, 256, .inl (fun _ => 0))) :: []) (ok_K_Ch.dec 16 rfl rfl) rfl fl_X0_22 rfl rfl rfl rfl (Nat.le_of_ble_eq_true rfl) ?_
  show COk _ _ _ _ _ _ _ _ _ ((h0, .inr (0, [.ref q0, .ref q1, .ref q2, .int 0])) :: (q0, .inl (c0, 8, .inl (fun _ => 0))) :: (q1, .inl (c1, 256, .inr (.inl (fun _ => 0)))) :: (q2, .inl (c2, 256, .inl (fun _ => 0))) :: []) _
  exact co_ret (ok_K_Ch.dec 17 rfl rfl) rfl rfl ⟨q0, c0, q1, c1, q2, c2, rfl, by simp only [List.nil_append, List.cons_append, List.append_assoc]⟩
end
section
def K_Pe : eM := (RX5, yX5_init, cX5_init, 2, none, { frames := 1, cells := 1, slots := 64, locals := 12 }, [(0, .aload_n 0, 1), (1, .invokespecial 3, 4), (4, .aload_n 0, 5), (5, .bipush 64, 7), (7, .newarray .int, 9), (9, .putfield 9, 12), (12, .aload_n 0, 13), (13, .iconst 0, 14), (14, .putfield 15, 17), (17, .aload_n 0, 18), (18, .iconst 0, 19), (19, .putfield 19, 22), (22, .aload_n 0, 23), (23, .iconst 0, 24), (24, .putfield 22, 27), (27, .aload_n 0, 28), (28, .iconst 0, 29), (29, .putfield 25, 32), (32, .aload_n 0, 33), (33, .aload_n 1, 34), (34, .putfield 28, 37), (37, .return_, 38)])
theorem ok_K_Pe : okN K_Pe := okN_of (by decide +kernel) (wd1 107 rfl rfl) rfl rfl rfl
theorem ny_Pe : (eNm K_Pe).cls ≠ "java/lang/invoke/MethodHandle" ∧ (eNm K_Pe).cls ≠ "java/lang/invoke/VarHandle" ∧ (parseMethodDescriptor (eNm K_Pe).desc).map (fun d => d.parameters.length) = some 1 := ⟨by decide +kernel, by decide +kernel, by decide +kernel⟩
def Q_Pe (h0 : Nat) (hc0 : Nat) : va_W → kT → Prop := fun w tys => ∃ (q0 : Nat) (c0 : ClassId), w = (h0, .inr (3, [.ref hc0, .ref q0, .int 0, .int 0, .int 0, .int 0])) :: (q0, .inl (c0, 64, .inl (fun _ => 0))) :: [] ∧ tys = (c0, .int) :: []
set_option maxRecDepth 20000 in
theorem k_Pe (D : va_G) (h0 : Nat) (hc0 : Nat) : CM K_Pe D (fun _ => True) h0 [.ref hc0] (.inr (3, [.null, .null, .int 0, .int 0, .int 0, .int 0])) (Q_Pe h0 hc0) := by
  refine CM.of ok_K_Pe rfl (Nat.le_of_ble_eq_true rfl) ?_
  show COk _ _ _ _ _ _ _ [(0, .ref h0), (1, .ref hc0)] _ _ _
  refine co_ald 0 (ok_K_Pe.dec 0 rfl rfl) rfl rfl ?_
  refine co_obj (ok_K_Pe.dec 1 rfl rfl) rfl (wd1 108 rfl rfl) (wd1 25 rfl rfl) (wd1 26 rfl rfl) (Nat.le_of_ble_eq_true rfl) (Nat.le_of_ble_eq_true rfl) ?_
  refine co_ald 0 (ok_K_Pe.dec 2 rfl rfl) rfl rfl ?_
  refine co_bp (64) (ok_K_Pe.dec 3 rfl rfl) rfl (by decide) ?_
  refine co_newi 64 (ok_K_Pe.dec 4 rfl rfl) rfl (wd1 69 rfl rfl) (by decide) (by decide) (Nat.le_of_ble_eq_true rfl) (Nat.le_of_ble_eq_true rfl) (Nat.le_of_ble_eq_true rfl) (fun q0 c0 => ?_)
  show COk _ _ _ _ _ _ _ _ _ ((h0, .inr (3, [.null, .null, .int 0, .int 0, .int 0, .int 0])) :: (q0, .inl (c0, 64, .inl (fun _ => 0))) :: []) _
  refine co_putF (ty := .array .int) (v := .ref q0) (fs := [.null, .null, .int 0, .int 0, .int 0, .int 0]) (w' := (q0, .inl (c0, 64, .inl (fun _ => 0))) :: []) (ok_K_Pe.dec 5 rfl rfl) rfl fl_X5_9 rfl rfl rfl rfl rfl (Nat.le_of_ble_eq_true rfl) ?_
  show COk _ _ _ _ _ _ _ _ _ ((h0, .inr (3, [.null, .ref q0, .int 0, .int 0, .int 0, .int 0])) :: (q0, .inl (c0, 64, .inl (fun _ => 0))) :: []) _
  refine co_ald 0 (ok_K_Pe.dec 6 rfl rfl) rfl rfl ?_
  refine co_ic (0) (ok_K_Pe.dec 7 rfl rfl) rfl (by decide) ?_
  refine co_put (ty := .int) (v := .int 0) (fs := [.null, .ref q0, .int 0, .int 0, .int 0, .int 0]) (w' := (q0, .inl (c0, 64, .inl (fun _ => 0))) :: []) (ok_K_Pe.dec 8 rfl rfl) rfl fl_X5_15 rfl rfl rfl rfl (Nat.le_of_ble_eq_true rfl) ?_
  show COk _ _ _ _ _ _ _ _ _ ((h0, .inr (3, [.null, .ref q0, .int 0, .int 0, .int 0, .int 0])) :: (q0, .inl (c0, 64, .inl (fun _ => 0))) :: []) _
  refine co_ald 0 (ok_K_Pe.dec 9 rfl rfl) rfl rfl ?_
  refine co_ic (0) (ok_K_Pe.dec 10 rfl rfl) rfl (by decide) ?_
  refine co_put (ty := .int) (v := .int 0) (fs := [.null, .ref q0, .int 0, .int 0, .int 0, .int 0]) (w' := (q0, .inl (c0, 64, .inl (fun _ => 0))) :: []) (ok_K_Pe.dec 11 rfl rfl) rfl fl_X5_19 rfl rfl rfl rfl (Nat.le_of_ble_eq_true rfl) ?_
  show COk _ _ _ _ _ _ _ _ _ ((h0, .inr (3, [.null, .ref q0, .int 0, .int 0, .int 0, .int 0])) :: (q0, .inl (c0, 64, .inl (fun _ => 0))) :: []) _
  refine co_ald 0 (ok_K_Pe.dec 12 rfl rfl) rfl rfl ?_
  refine co_ic (0) (ok_K_Pe.dec 13 rfl rfl) rfl (by decide) ?_
  refine co_put (ty := .int) (v := .int 0) (fs := [.null, .ref q0, .int 0, .int 0, .int 0, .int 0]) (w' := (q0, .inl (c0, 64, .inl (fun _ => 0))) :: []) (ok_K_Pe.dec 14 rfl rfl) rfl fl_X5_22 rfl rfl rfl rfl (Nat.le_of_ble_eq_true rfl) ?_
  show COk _ _ _ _ _ _ _ _ _ ((h0, .inr (3, [.null, .ref q0, .int 0, .int 0, .int 0, .int 0])) :: (q0, .inl (c0, 64, .inl (fun _ => 0))) :: []) _
  refine co_ald 0 (ok_K_Pe.dec 15 rfl rfl) rfl rfl ?_
  refine co_ic (0) (ok_K_Pe.dec 16 rfl rfl) rfl (by decide) ?_
  refine co_put (ty := .int) (v := .int 0) (fs := [.null, .ref q0, .int 0, .int 0, .int 0, .int 0]) (w' := (q0, .inl (c0, 64, .inl (fun _ => 0))) :: []) (ok_K_Pe.dec 17 rfl rfl) rfl fl_X5_25 rfl rfl rfl rfl (Nat.le_of_ble_eq_true rfl) ?_
  show COk _ _ _ _ _ _ _ _ _ ((h0, .inr (3, [.null, .ref q0, .int 0, .int 0, .int 0, .int 0])) :: (q0, .inl (c0, 64, .inl (fun _ => 0))) :: []) _
  refine co_ald 0 (ok_K_Pe.dec 18 rfl rfl) rfl rfl ?_
  refine co_ald 1 (ok_K_Pe.dec 19 rfl rfl) rfl rfl ?_
  refine co_putF (ty := .object "EvenTables$Choices") (v := .ref hc0) (fs := [.null, .ref q0, .int 0, .int 0, .int 0, .int 0]) (w' := (q0, .inl (c0, 64, .inl (fun _ => 0))) :: []) (ok_K_Pe.dec 20 rfl rfl) rfl fl_X5_28 rfl rfl rfl rfl rfl (Nat.le_of_ble_eq_true rfl) ?_
  show COk _ _ _ _ _ _ _ _ _ ((h0, .inr (3, [.ref hc0, .ref q0, .int 0, .int 0, .int 0, .int 0])) :: (q0, .inl (c0, 64, .inl (fun _ => 0))) :: []) _
  exact co_ret (ok_K_Pe.dec 21 rfl rfl) rfl rfl ⟨q0, c0, rfl, by simp only [List.nil_append, List.cons_append, List.append_assoc]⟩
end
section
def K_Mi : eM := (RX3, yX3_init, cX3_init, 1, none, { frames := 1, cells := 2, slots := 576, locals := 12 }, [(0, .aload_n 0, 1), (1, .invokespecial 3, 4), (4, .aload_n 0, 5), (5, .bipush 64, 7), (7, .newarray .int, 9), (9, .putfield 9, 12), (12, .aload_n 0, 13), (13, .sipush 512, 16), (16, .newarray .int, 18), (18, .putfield 15, 21), (21, .aload_n 0, 22), (22, .iconst 0, 23), (23, .putfield 18, 26), (26, .aload_n 0, 27), (27, .iconst 0, 28), (28, .putfield 22, 31), (31, .aload_n 0, 32), (32, .iconst 0, 33), (33, .putfield 25, 36), (36, .aload_n 0, 37), (37, .iconst 0, 38), (38, .putfield 28, 41), (41, .aload_n 0, 42), (42, .iconst 0, 43), (43, .putfield 31, 46), (46, .return_, 47)])
theorem ok_K_Mi : okN K_Mi := okN_of (by decide +kernel) (wd1 137 rfl rfl) rfl rfl rfl
theorem ny_Mi : (eNm K_Mi).cls ≠ "java/lang/invoke/MethodHandle" ∧ (eNm K_Mi).cls ≠ "java/lang/invoke/VarHandle" ∧ (parseMethodDescriptor (eNm K_Mi).desc).map (fun d => d.parameters.length) = some 0 := ⟨by decide +kernel, by decide +kernel, by decide +kernel⟩
def Q_Mi (h0 : Nat) : va_W → kT → Prop := fun w tys => ∃ (q0 : Nat) (c0 : ClassId) (q1 : Nat) (c1 : ClassId), w = (h0, .inr (2, [.ref q0, .ref q1, .int 0, .int 0, .int 0, .int 0, .int 0])) :: (q0, .inl (c0, 64, .inl (fun _ => 0))) :: (q1, .inl (c1, 512, .inl (fun _ => 0))) :: [] ∧ tys = (c0, .int) :: (c1, .int) :: []
set_option maxRecDepth 20000 in
theorem k_Mi (D : va_G) (h0 : Nat) : CM K_Mi D (fun _ => True) h0 [] (.inr (2, [.null, .null, .int 0, .int 0, .int 0, .int 0, .int 0])) (Q_Mi h0) := by
  refine CM.of ok_K_Mi rfl (Nat.le_of_ble_eq_true rfl) ?_
  show COk _ _ _ _ _ _ _ [(0, .ref h0)] _ _ _
  refine co_ald 0 (ok_K_Mi.dec 0 rfl rfl) rfl rfl ?_
  refine co_obj (ok_K_Mi.dec 1 rfl rfl) rfl (wd1 138 rfl rfl) (wd1 25 rfl rfl) (wd1 26 rfl rfl) (Nat.le_of_ble_eq_true rfl) (Nat.le_of_ble_eq_true rfl) ?_
  refine co_ald 0 (ok_K_Mi.dec 2 rfl rfl) rfl rfl ?_
  refine co_bp (64) (ok_K_Mi.dec 3 rfl rfl) rfl (by decide) ?_
  refine co_newi 64 (ok_K_Mi.dec 4 rfl rfl) rfl (wd1 69 rfl rfl) (by decide) (by decide) (Nat.le_of_ble_eq_true rfl) (Nat.le_of_ble_eq_true rfl) (Nat.le_of_ble_eq_true rfl) (fun q0 c0 => ?_)
  show COk _ _ _ _ _ _ _ _ _ ((h0, .inr (2, [.null, .null, .int 0, .int 0, .int 0, .int 0, .int 0])) :: (q0, .inl (c0, 64, .inl (fun _ => 0))) :: []) _
  refine co_putF (ty := .array .int) (v := .ref q0) (fs := [.null, .null, .int 0, .int 0, .int 0, .int 0, .int 0]) (w' := (q0, .inl (c0, 64, .inl (fun _ => 0))) :: []) (ok_K_Mi.dec 5 rfl rfl) rfl fl_X3_9 rfl rfl rfl rfl rfl (Nat.le_of_ble_eq_true rfl) ?_
  show COk _ _ _ _ _ _ _ _ _ ((h0, .inr (2, [.ref q0, .null, .int 0, .int 0, .int 0, .int 0, .int 0])) :: (q0, .inl (c0, 64, .inl (fun _ => 0))) :: []) _
  refine co_ald 0 (ok_K_Mi.dec 6 rfl rfl) rfl rfl ?_
  refine co_sp (512) (ok_K_Mi.dec 7 rfl rfl) rfl (by decide) ?_
  refine co_newi 512 (ok_K_Mi.dec 8 rfl rfl) rfl (wd1 69 rfl rfl) (by decide) (by decide) (Nat.le_of_ble_eq_true rfl) (Nat.le_of_ble_eq_true rfl) (Nat.le_of_ble_eq_true rfl) (fun q1 c1 => ?_)
  show COk _ _ _ _ _ _ _ _ _ ((h0, .inr (2, [.ref q0, .null, .int 0, .int 0, .int 0, .int 0, .int 0])) :: (q0, .inl (c0, 64, .inl (fun _ => 0))) :: (q1, .inl (c1, 512, .inl (fun _ => 0))) :: []) _
  refine co_putF (ty := .array .int) (v := .ref q1) (fs := [.ref q0, .null, .int 0, .int 0, .int 0, .int 0, .int 0]) (w' := (q0, .inl (c0, 64, .inl (fun _ => 0))) :: (q1, .inl (c1, 512, .inl (fun _ => 0))) :: []) (ok_K_Mi.dec 9 rfl rfl) rfl fl_X3_15 rfl rfl rfl rfl rfl (Nat.le_of_ble_eq_true rfl) ?_
  show COk _ _ _ _ _ _ _ _ _ ((h0, .inr (2, [.ref q0, .ref q1, .int 0, .int 0, .int 0, .int 0, .int 0])) :: (q0, .inl (c0, 64, .inl (fun _ => 0))) :: (q1, .inl (c1, 512, .inl (fun _ => 0))) :: []) _
  refine co_ald 0 (ok_K_Mi.dec 10 rfl rfl) rfl rfl ?_
  refine co_ic (0) (ok_K_Mi.dec 11 rfl rfl) rfl (by decide) ?_
  refine co_put (ty := .int) (v := .int 0) (fs := [.ref q0, .ref q1, .int 0, .int 0, .int 0, .int 0, .int 0]) (w' := (q0, .inl (c0, 64, .inl (fun _ => 0))) :: (q1, .inl (c1, 512, .inl (fun _ => 0))) :: []) (ok_K_Mi.dec 12 rfl rfl) rfl fl_X3_18 rfl rfl rfl rfl (Nat.le_of_ble_eq_true rfl) ?_
  show COk _ _ _ _ _ _ _ _ _ ((h0, .inr (2, [.ref q0, .ref q1, .int 0, .int 0, .int 0, .int 0, .int 0])) :: (q0, .inl (c0, 64, .inl (fun _ => 0))) :: (q1, .inl (c1, 512, .inl (fun _ => 0))) :: []) _
  refine co_ald 0 (ok_K_Mi.dec 13 rfl rfl) rfl rfl ?_
  refine co_ic (0) (ok_K_Mi.dec 14 rfl rfl) rfl (by decide) ?_
  refine co_put (ty := .int) (v := .int 0) (fs := [.ref q0, .ref q1, .int 0, .int 0, .int 0, .int 0, .int 0]) (w' := (q0, .inl (c0, 64, .inl (fun _ => 0))) :: (q1, .inl (c1, 512, .inl (fun _ => 0))) :: []) (ok_K_Mi.dec 15 rfl rfl) rfl fl_X3_22 rfl rfl rfl rfl (Nat.le_of_ble_eq_true rfl) ?_
  show COk _ _ _ _ _ _ _ _ _ ((h0, .inr (2, [.ref q0, .ref q1, .int 0, .int 0, .int 0, .int 0, .int 0])) :: (q0, .inl (c0, 64, .inl (fun _ => 0))) :: (q1, .inl (c1, 512, .inl (fun _ => 0))) :: []) _
  refine co_ald 0 (ok_K_Mi.dec 16 rfl rfl) rfl rfl ?_
  refine co_ic (0) (ok_K_Mi.dec 17 rfl rfl) rfl (by decide) ?_
  refine co_put (ty := .int) (v := .int 0) (fs := [.ref q0, .ref q1, .int 0, .int 0, .int 0, .int 0, .int 0]) (w' := (q0, .inl (c0, 64, .inl (fun _ => 0))) :: (q1, .inl (c1, 512, .inl (fun _ => 0))) :: []) (ok_K_Mi.dec 18 rfl rfl) rfl fl_X3_25 rfl rfl rfl rfl (Nat.le_of_ble_eq_true rfl) ?_
  show COk _ _ _ _ _ _ _ _ _ ((h0, .inr (2, [.ref q0, .ref q1, .int 0, .int 0, .int 0, .int 0, .int 0])) :: (q0, .inl (c0, 64, .inl (fun _ => 0))) :: (q1, .inl (c1, 512, .inl (fun _ => 0))) :: []) _
  refine co_ald 0 (ok_K_Mi.dec 19 rfl rfl) rfl rfl ?_
  refine co_ic (0) (ok_K_Mi.dec 20 rfl rfl) rfl (by decide) ?_
  refine co_put (ty := .int) (v := .int 0) (fs := [.ref q0, .ref q1, .int 0, .int 0, .int 0, .int 0, .int 0]) (w' := (q0, .inl (c0, 64, .inl (fun _ => 0))) :: (q1, .inl (c1, 512, .inl (fun _ => 0))) :: []) (ok_K_Mi.dec 21 rfl rfl) rfl fl_X3_28 rfl rfl rfl rfl (Nat.le_of_ble_eq_true rfl) ?_
  show COk _ _ _ _ _ _ _ _ _ ((h0, .inr (2, [.ref q0, .ref q1, .int 0, .int 0, .int 0, .int 0, .int 0])) :: (q0, .inl (c0, 64, .inl (fun _ => 0))) :: (q1, .inl (c1, 512, .inl (fun _ => 0))) :: []) _
  refine co_ald 0 (ok_K_Mi.dec 22 rfl rfl) rfl rfl ?_
  refine co_ic (0) (ok_K_Mi.dec 23 rfl rfl) rfl (by decide) ?_
  refine co_put (ty := .int) (v := .int 0) (fs := [.ref q0, .ref q1, .int 0, .int 0, .int 0, .int 0, .int 0]) (w' := (q0, .inl (c0, 64, .inl (fun _ => 0))) :: (q1, .inl (c1, 512, .inl (fun _ => 0))) :: []) (ok_K_Mi.dec 24 rfl rfl) rfl fl_X3_31 rfl rfl rfl rfl (Nat.le_of_ble_eq_true rfl) ?_
  show COk _ _ _ _ _ _ _ _ _ ((h0, .inr (2, [.ref q0, .ref q1, .int 0, .int 0, .int 0, .int 0, .int 0])) :: (q0, .inl (c0, 64, .inl (fun _ => 0))) :: (q1, .inl (c1, 512, .inl (fun _ => 0))) :: []) _
  exact co_ret (ok_K_Mi.dec 25 rfl rfl) rfl rfl ⟨q0, c0, q1, c1, rfl, by simp only [List.nil_append, List.cons_append, List.append_assoc]⟩
end
section
def K_Ro : eM := (RX6, yX6_init, cX6_init, 1, none, { frames := 1, cells := 5, slots := 1008, locals := 12 }, [(0, .aload_n 0, 1), (1, .invokespecial 3, 4), (4, .aload_n 0, 5), (5, .sipush 324, 8), (8, .newarray .int, 10), (10, .putfield 11, 13), (13, .aload_n 0, 14), (14, .sipush 324, 17), (17, .newarray .int, 19), (19, .putfield 15, 22), (22, .aload_n 0, 23), (23, .sipush 324, 26), (26, .newarray .int, 28), (28, .putfield 18, 31), (31, .aload_n 0, 32), (32, .bipush 18, 34), (34, .newarray .int, 36), (36, .putfield 21, 39), (39, .aload_n 0, 40), (40, .bipush 18, 42), (42, .newarray .int, 44), (44, .putfield 24, 47), (47, .return_, 48)])
theorem ok_K_Ro : okN K_Ro := okN_of (by decide +kernel) (wd1 198 rfl rfl) rfl rfl rfl
theorem ny_Ro : (eNm K_Ro).cls ≠ "java/lang/invoke/MethodHandle" ∧ (eNm K_Ro).cls ≠ "java/lang/invoke/VarHandle" ∧ (parseMethodDescriptor (eNm K_Ro).desc).map (fun d => d.parameters.length) = some 0 := ⟨by decide +kernel, by decide +kernel, by decide +kernel⟩
def Q_Ro (h0 : Nat) : va_W → kT → Prop := fun w tys => ∃ (q0 : Nat) (c0 : ClassId) (q1 : Nat) (c1 : ClassId) (q2 : Nat) (c2 : ClassId) (q3 : Nat) (c3 : ClassId) (q4 : Nat) (c4 : ClassId), w = (h0, .inr (4, [.ref q0, .ref q1, .ref q2, .ref q3, .ref q4])) :: (q0, .inl (c0, 324, .inl (fun _ => 0))) :: (q1, .inl (c1, 324, .inl (fun _ => 0))) :: (q2, .inl (c2, 324, .inl (fun _ => 0))) :: (q3, .inl (c3, 18, .inl (fun _ => 0))) :: (q4, .inl (c4, 18, .inl (fun _ => 0))) :: [] ∧ tys = (c0, .int) :: (c1, .int) :: (c2, .int) :: (c3, .int) :: (c4, .int) :: []
set_option maxRecDepth 20000 in
theorem k_Ro (D : va_G) (h0 : Nat) : CM K_Ro D (fun _ => True) h0 [] (.inr (4, [.null, .null, .null, .null, .null])) (Q_Ro h0) := by
  refine CM.of ok_K_Ro rfl (Nat.le_of_ble_eq_true rfl) ?_
  show COk _ _ _ _ _ _ _ [(0, .ref h0)] _ _ _
  refine co_ald 0 (ok_K_Ro.dec 0 rfl rfl) rfl rfl ?_
  refine co_obj (ok_K_Ro.dec 1 rfl rfl) rfl (wd1 199 rfl rfl) (wd1 25 rfl rfl) (wd1 26 rfl rfl) (Nat.le_of_ble_eq_true rfl) (Nat.le_of_ble_eq_true rfl) ?_
  refine co_ald 0 (ok_K_Ro.dec 2 rfl rfl) rfl rfl ?_
  refine co_sp (324) (ok_K_Ro.dec 3 rfl rfl) rfl (by decide) ?_
  refine co_newi 324 (ok_K_Ro.dec 4 rfl rfl) rfl (wd1 69 rfl rfl) (by decide) (by decide) (Nat.le_of_ble_eq_true rfl) (Nat.le_of_ble_eq_true rfl) (Nat.le_of_ble_eq_true rfl) (fun q0 c0 => ?_)
  show COk _ _ _ _ _ _ _ _ _ ((h0, .inr (4, [.null, .null, .null, .null, .null])) :: (q0, .inl (c0, 324, .inl (fun _ => 0))) :: []) _
  refine co_putF (ty := .array .int) (v := .ref q0) (fs := [.null, .null, .null, .null, .null]) (w' := (q0, .inl (c0, 324, .inl (fun _ => 0))) :: []) (ok_K_Ro.dec 5 rfl rfl) rfl fl_X6_11 rfl rfl rfl rfl rfl (Nat.le_of_ble_eq_true rfl) ?_
  show COk _ _ _ _ _ _ _ _ _ ((h0, .inr (4, [.ref q0, .null, .null, .null, .null])) :: (q0, .inl (c0, 324, .inl (fun _ => 0))) :: []) _
  refine co_ald 0 (ok_K_Ro.dec 6 rfl rfl) rfl rfl ?_
  refine co_sp (324) (ok_K_Ro.dec 7 rfl rfl) rfl (by decide) ?_
  refine co_newi 324 (ok_K_Ro.dec 8 rfl rfl) rfl (wd1 69 rfl rfl) (by decide) (by decide) (Nat.le_of_ble_eq_true rfl) (Nat.le_of_ble_eq_true rfl) (Nat.le_of_ble_eq_true rfl) (fun q1 c1 => ?_)
  show COk _ _ _ _ _ _ _ _ _ ((h0, .inr (4, [.ref q0, .null, .null, .null, .null])) :: (q0, .inl (c0, 324, .inl (fun _ => 0))) :: (q1, .inl (c1, 324, .inl (fun _ => 0))) :: []) _
  refine co_putF (ty := .array .int) (v := .ref q1) (fs := [.ref q0, .null, .null, .null, .null]) (w' := (q0, .inl (c0, 324, .inl (fun _ => 0))) :: (q1, .inl (c1, 324, .inl (fun _ => 0))) :: []) (ok_K_Ro.dec 9 rfl rfl) rfl fl_X6_15 rfl rfl rfl rfl rfl (Nat.le_of_ble_eq_true rfl) ?_
  show COk _ _ _ _ _ _ _ _ _ ((h0, .inr (4, [.ref q0, .ref q1, .null, .null, .null])) :: (q0, .inl (c0, 324, .inl (fun _ => 0))) :: (q1, .inl (c1, 324, .inl (fun _ => 0))) :: []) _
  refine co_ald 0 (ok_K_Ro.dec 10 rfl rfl) rfl rfl ?_
  refine co_sp (324) (ok_K_Ro.dec 11 rfl rfl) rfl (by decide) ?_
  refine co_newi 324 (ok_K_Ro.dec 12 rfl rfl) rfl (wd1 69 rfl rfl) (by decide) (by decide) (Nat.le_of_ble_eq_true rfl) (Nat.le_of_ble_eq_true rfl) (Nat.le_of_ble_eq_true rfl) (fun q2 c2 => ?_)
  show COk _ _ _ _ _ _ _ _ _ ((h0, .inr (4, [.ref q0, .ref q1, .null, .null, .null])) :: (q0, .inl (c0, 324, .inl (fun _ => 0))) :: (q1, .inl (c1, 324, .inl (fun _ => 0))) :: (q2, .inl (c2, 324, .inl (fun _ => 0))) :: []) _
  refine co_putF (ty := .array .int) (v := .ref q2) (fs := [.ref q0, .ref q1, .null, .null, .null]) (w' := (q0, .inl (c0, 324, .inl (fun _ => 0))) :: (q1, .inl (c1, 324, .inl (fun _ => 0))) :: (q2, .inl (c2, 324, .inl (fun _ => 0))) :: []) (ok_K_Ro.dec 13 rfl rfl) rfl fl_X6_18 rfl rfl rfl rfl rfl (Nat.le_of_ble_eq_true rfl) ?_
  show COk _ _ _ _ _ _ _ _ _ ((h0, .inr (4, [.ref q0, .ref q1, .ref q2, .null, .null])) :: (q0, .inl (c0, 324, .inl (fun _ => 0))) :: (q1, .inl (c1, 324, .inl (fun _ => 0))) :: (q2, .inl (c2, 324, .inl (fun _ => 0))) :: []) _
  refine co_ald 0 (ok_K_Ro.dec 14 rfl rfl) rfl rfl ?_
  refine co_bp (18) (ok_K_Ro.dec 15 rfl rfl) rfl (by decide) ?_
  refine co_newi 18 (ok_K_Ro.dec 16 rfl rfl) rfl (wd1 69 rfl rfl) (by decide) (by decide) (Nat.le_of_ble_eq_true rfl) (Nat.le_of_ble_eq_true rfl) (Nat.le_of_ble_eq_true rfl) (fun q3 c3 => ?_)
  show COk _ _ _ _ _ _ _ _ _ ((h0, .inr (4, [.ref q0, .ref q1, .ref q2, .null, .null])) :: (q0, .inl (c0, 324, .inl (fun _ => 0))) :: (q1, .inl (c1, 324, .inl (fun _ => 0))) :: (q2, .inl (c2, 324, .inl (fun _ => 0))) :: (q3, .inl (c3, 18, .inl (fun _ => 0))) :: []) _
  refine co_putF (ty := .array .int) (v := .ref q3) (fs := [.ref q0, .ref q1, .ref q2, .null, .null]) (w' := (q0, .inl (c0, 324, .inl (fun _ => 0))) :: (q1, .inl (c1, 324, .inl (fun _ => 0))) :: (q2, .inl (c2, 324, .inl (fun _ => 0))) :: (q3, .inl (c3, 18, .inl (fun _ => 0))) :: []) (ok_K_Ro.dec 17 rfl rfl) rfl fl_X6_21 rfl rfl rfl rfl rfl (Nat.le_of_ble_eq_true rfl) ?_
  show COk _ _ _ _ _ _ _ _ _ ((h0, .inr (4, [.ref q0, .ref q1, .ref q2, .ref q3, .null])) :: (q0, .inl (c0, 324, .inl (fun _ => 0))) :: (q1, .inl (c1, 324, .inl (fun _ => 0))) :: (q2, .inl (c2, 324, .inl (fun _ => 0))) :: (q3, .inl (c3, 18, .inl (fun _ => 0))) :: []) _
  refine co_ald 0 (ok_K_Ro.dec 18 rfl rfl) rfl rfl ?_
  refine co_bp (18) (ok_K_Ro.dec 19 rfl rfl) rfl (by decide) ?_
  refine co_newi 18 (ok_K_Ro.dec 20 rfl rfl) rfl (wd1 69 rfl rfl) (by decide) (by decide) (Nat.le_of_ble_eq_true rfl) (Nat.le_of_ble_eq_true rfl) (Nat.le_of_ble_eq_true rfl) (fun q4 c4 => ?_)
  show COk _ _ _ _ _ _ _ _ _ ((h0, .inr (4, [.ref q0, .ref q1, .ref q2, .ref q3, .null])) :: (q0, .inl (c0, 324, .inl (fun _ => 0))) :: (q1, .inl (c1, 324, .inl (fun _ => 0))) :: (q2, .inl (c2, 324, .inl (fun _ => 0))) :: (q3, .inl (c3, 18, .inl (fun _ => 0))) :: (q4, .inl (c4, 18, .inl (fun _ => 0))) :: []) _
  refine co_putF (ty := .array .int) (v := .ref q4) (fs := [.ref q0, .ref q1, .ref q2, .ref q3, .null]) (w' := (q0, .inl (c0, 324, .inl (fun _ => 0))) :: (q1, .inl (c1, 324, .inl (fun _ => 0))) :: (q2, .inl (c2, 324, .inl (fun _ => 0))) :: (q3, .inl (c3, 18, .inl (fun _ => 0))) :: (q4, .inl (c4, 18, .inl (fun _ => 0))) :: []) (ok_K_Ro.dec 21 rfl rfl) rfl fl_X6_24 rfl rfl rfl rfl rfl (Nat.le_of_ble_eq_true rfl) ?_
  show COk _ _ _ _ _ _ _ _ _ ((h0, .inr (4, [.ref q0, .ref q1, .ref q2, .ref q3, .ref q4])) :: (q0, .inl (c0, 324, .inl (fun _ => 0))) :: (q1, .inl (c1, 324, .inl (fun _ => 0))) :: (q2, .inl (c2, 324, .inl (fun _ => 0))) :: (q3, .inl (c3, 18, .inl (fun _ => 0))) :: (q4, .inl (c4, 18, .inl (fun _ => 0))) :: []) _
  exact co_ret (ok_K_Ro.dec 22 rfl rfl) rfl rfl ⟨q0, c0, q1, c1, q2, c2, q3, c3, q4, c4, rfl, by simp only [List.nil_append, List.cons_append, List.append_assoc]⟩
end
section
def K_Sh : eM := (RX8, yX8_init, cX8_init, 1, none, { frames := 1, cells := 1, slots := 1216, locals := 12 }, [(0, .aload_n 0, 1), (1, .invokespecial 3, 4), (4, .aload_n 0, 5), (5, .sipush 1216, 8), (8, .newarray .int, 10), (10, .putfield 11, 13), (13, .aload_n 0, 14), (14, .iconst 0, 15), (15, .putfield 15, 18), (18, .return_, 19)])
theorem ok_K_Sh : okN K_Sh := okN_of (by decide +kernel) (wd1 220 rfl rfl) rfl rfl rfl
theorem ny_Sh : (eNm K_Sh).cls ≠ "java/lang/invoke/MethodHandle" ∧ (eNm K_Sh).cls ≠ "java/lang/invoke/VarHandle" ∧ (parseMethodDescriptor (eNm K_Sh).desc).map (fun d => d.parameters.length) = some 0 := ⟨by decide +kernel, by decide +kernel, by decide +kernel⟩
def Q_Sh (h0 : Nat) : va_W → kT → Prop := fun w tys => ∃ (q0 : Nat) (c0 : ClassId), w = (h0, .inr (6, [.ref q0, .int 0])) :: (q0, .inl (c0, 1216, .inl (fun _ => 0))) :: [] ∧ tys = (c0, .int) :: []
set_option maxRecDepth 20000 in
theorem k_Sh (D : va_G) (h0 : Nat) : CM K_Sh D (fun _ => True) h0 [] (.inr (6, [.null, .int 0])) (Q_Sh h0) := by
  refine CM.of ok_K_Sh rfl (Nat.le_of_ble_eq_true rfl) ?_
  show COk _ _ _ _ _ _ _ [(0, .ref h0)] _ _ _
  refine co_ald 0 (ok_K_Sh.dec 0 rfl rfl) rfl rfl ?_
  refine co_obj (ok_K_Sh.dec 1 rfl rfl) rfl (wd1 221 rfl rfl) (wd1 25 rfl rfl) (wd1 26 rfl rfl) (Nat.le_of_ble_eq_true rfl) (Nat.le_of_ble_eq_true rfl) ?_
  refine co_ald 0 (ok_K_Sh.dec 2 rfl rfl) rfl rfl ?_
  refine co_sp (1216) (ok_K_Sh.dec 3 rfl rfl) rfl (by decide) ?_
  refine co_newi 1216 (ok_K_Sh.dec 4 rfl rfl) rfl (wd1 69 rfl rfl) (by decide) (by decide) (Nat.le_of_ble_eq_true rfl) (Nat.le_of_ble_eq_true rfl) (Nat.le_of_ble_eq_true rfl) (fun q0 c0 => ?_)
  show COk _ _ _ _ _ _ _ _ _ ((h0, .inr (6, [.null, .int 0])) :: (q0, .inl (c0, 1216, .inl (fun _ => 0))) :: []) _
  refine co_putF (ty := .array .int) (v := .ref q0) (fs := [.null, .int 0]) (w' := (q0, .inl (c0, 1216, .inl (fun _ => 0))) :: []) (ok_K_Sh.dec 5 rfl rfl) rfl fl_X8_11 rfl rfl rfl rfl rfl (Nat.le_of_ble_eq_true rfl) ?_
  show COk _ _ _ _ _ _ _ _ _ ((h0, .inr (6, [.ref q0, .int 0])) :: (q0, .inl (c0, 1216, .inl (fun _ => 0))) :: []) _
  refine co_ald 0 (ok_K_Sh.dec 6 rfl rfl) rfl rfl ?_
  refine co_ic (0) (ok_K_Sh.dec 7 rfl rfl) rfl (by decide) ?_
  refine co_put (ty := .int) (v := .int 0) (fs := [.ref q0, .int 0]) (w' := (q0, .inl (c0, 1216, .inl (fun _ => 0))) :: []) (ok_K_Sh.dec 8 rfl rfl) rfl fl_X8_15 rfl rfl rfl rfl (Nat.le_of_ble_eq_true rfl) ?_
  show COk _ _ _ _ _ _ _ _ _ ((h0, .inr (6, [.ref q0, .int 0])) :: (q0, .inl (c0, 1216, .inl (fun _ => 0))) :: []) _
  exact co_ret (ok_K_Sh.dec 9 rfl rfl) rfl rfl ⟨q0, c0, rfl, by simp only [List.nil_append, List.cons_append, List.append_assoc]⟩
end
