section
theorem lt_ext {P : Int → Prop} {a i : Int} (h : ∀ k, a ≤ k → k < i → P k) (hi : P i) : ∀ k, a ≤ k → k < i + 1 → P k := fun k h1 h2 => by
  by_cases q : k = i
  · rw [q]; exact hi
  · exact h k h1 (by omega)
def unev (row col : Int → Int) (n z : Int) : Prop :=
  (∃ i, 1 ≤ i ∧ i < n ∧ z = i ∧ row i ≠ row 0 ∧ ∀ k, 1 ≤ k → k < i → row k = row 0) ∨
  ((∀ k, 1 ≤ k → k < n → row k = row 0) ∧ ((∃ j, 0 ≤ j ∧ j < n ∧ z = 8 + j ∧ col j ≠ row 0 ∧ ∀ k, 0 ≤ k → k < j → col k = row 0) ∨ (z = -1 ∧ ∀ k, 0 ≤ k → k < n → col k = row 0)))
theorem s_Mo_uneven {σ : eS} {s : Int} (hB : iB1 σ) : MtI shB M_Mo_uneven [vr 0, vi s] σ (fun σ' z => σ' = σ ∧ ((¬ tabB σ s ∧ z = -1) ∨ (tabB σ s ∧ unev (rowB σ s) (colB σ s) (σ 1 s) z))) := by
  refine Mt.of okM_Mo_uneven (Nat.le_of_ble_eq_true rfl) (fun hk hg => ?_)
  by_cases ht : tabB σ s
  · obtain ⟨t1, t2, t3⟩ := id ht
    obtain ⟨g1, g2, -⟩ := hB.1 s t1 t2
    refine ok_aload_n 0 rfl rfl rfl (ok_iload_n 1 rfl rfl rfl (ok_callVI (M' := M_Mo_isTable) (as := [_]) 2 rfl rfl ml_X12_111 (s_Mo_isTable_y ht) rfl rfl (Nat.le_of_ble_eq_true rfl) ⟨Nat.le_of_ble_eq_true rfl, Nat.le_of_ble_eq_true rfl⟩ rfl (Nat.le_of_ble_eq_true rfl) (fun σ' z hz => ?_)))
    rw [hz.1, hz.2]
    clear hz z σ'
    refine ok_if_ne 3 10 rfl rfl rfl (fun h5 => ?_) (fun h5 => ?_)
    · refine ok_iconst 6 rfl rfl (by decide) (ok_ist2 7 rfl rfl rfl ?_)
      refine lpO (fun q : Int => [some (vr 0), some (vi s), some (vi q)]) (fun _ => σ) (fun q => 1 ≤ q ∧ q ≤ σ 1 s ∧ ∀ k, 1 ≤ k → k < q → rowB σ s k = rowB σ s 0) (fun q => (σ 1 s - q).toNat) ?_ 1 ⟨by omega, by omega, fun k a b => by omega⟩
      rintro i ⟨h1, h2, h3⟩ ih
      refine ok_iload_n 8 rfl rfl rfl (ok_aload_n 9 rfl rfl rfl (ok_getR 10 rfl rfl fl_X12_7 rfl rfl (ok_iload_n 11 rfl rfl rfl (ok_iald 12 rfl rfl rfl (by first | omega | (simp [up_if]; omega) | (simp [up_if] at *; omega)) (ok_icmp_ge 13 46 rfl rfl rfl (fun h19 => ?_) (fun h19 => ?_))))))
      · refine ok_iconst 28 rfl rfl (by decide) (ok_ist2 29 rfl rfl rfl ?_)
        have hr : ∀ k, 1 ≤ k → k < σ 1 s → rowB σ s k = rowB σ s 0 := fun k a b => h3 k a (by omega)
        refine lpO (fun q : Int => [some (vr 0), some (vi s), some (vi q)]) (fun _ => σ) (fun q => 0 ≤ q ∧ q ≤ σ 1 s ∧ ∀ k, 0 ≤ k → k < q → colB σ s k = rowB σ s 0) (fun q => (σ 1 s - q).toNat) ?_ 0 ⟨by omega, by omega, fun k a b => by omega⟩
        rintro j ⟨h1, h2, h3⟩ ih
        refine ok_iload_n 30 rfl rfl rfl (ok_aload_n 31 rfl rfl rfl (ok_getR 32 rfl rfl fl_X12_7 rfl rfl (ok_iload_n 33 rfl rfl rfl (ok_iald 34 rfl rfl rfl (by first | omega | (simp [up_if]; omega) | (simp [up_if] at *; omega)) (ok_icmp_ge 35 85 rfl rfl rfl (fun h55 => ?_) (fun h55 => ?_))))))
        · refine ok_iconst 52 rfl rfl (by decide) (ok_iret 53 rfl rfl rfl ?_)
          exact ⟨_, rfl, rfl, Or.inr ⟨ht, Or.inr ⟨hr, Or.inr ⟨rfl, fun k a b => h3 k a (by omega)⟩⟩⟩⟩
        · refine ok_aload_n 36 rfl rfl rfl (ok_iload_n 37 rfl rfl rfl (ok_iload_n 38 rfl rfl rfl (ok_callVL (M' := M_Mo_columnOf) (as := [_, _]) 39 rfl rfl ml_X12_122 (s_Mo_columnOf hB ⟨t1, t2⟩ ⟨by omega, by omega⟩) rfl rfl (Nat.le_of_ble_eq_true rfl) ⟨Nat.le_of_ble_eq_true rfl, Nat.le_of_ble_eq_true rfl⟩ rfl (Nat.le_of_ble_eq_true rfl) (fun σ' z hz => ?_))))
          rw [hz.1, hz.2]
          clear hz z σ'
          refine ok_aload_n 40 rfl rfl rfl (ok_iload_n 41 rfl rfl rfl (ok_iconst 42 rfl rfl (by decide) (ok_callVL (M' := M_Mo_rowOf) (as := [_, _]) 43 rfl rfl ml_X12_114 (s_Mo_rowOf hB ⟨t1, t2⟩ ⟨by omega, by omega⟩) rfl rfl (Nat.le_of_ble_eq_true rfl) ⟨Nat.le_of_ble_eq_true rfl, Nat.le_of_ble_eq_true rfl⟩ rfl (Nat.le_of_ble_eq_true rfl) (fun σ' z hz => ?_))))
          rw [hz.1, hz.2]
          clear hz z σ'
          refine ok_lcmp_eq 44 45 79 rfl rfl rfl rfl rfl (fun h70 => ?_) (fun h70 => ?_)
          · refine ok_inc2 50 rfl rfl rfl (by first | omega | (simp [up_if]; omega) | (simp [up_if] at *; omega)) (ok_goto 51 48 rfl rfl rfl ?_)
            exact ih (j + 1) ⟨by omega, by omega, lt_ext h3 h70⟩ (by omega)
          · refine ok_bipush 46 rfl rfl (by decide) (by decide) (ok_iload_n 47 rfl rfl rfl (ok_iadd 48 rfl rfl (by first | omega | (simp [up_if]; omega) | (simp [up_if] at *; omega)) (ok_iret 49 rfl rfl rfl ?_)))
            exact ⟨_, rfl, rfl, Or.inr ⟨ht, Or.inr ⟨hr, Or.inl ⟨j, h1, by omega, rfl, h70, h3⟩⟩⟩⟩
      · refine ok_aload_n 14 rfl rfl rfl (ok_iload_n 15 rfl rfl rfl (ok_iload_n 16 rfl rfl rfl (ok_callVL (M' := M_Mo_rowOf) (as := [_, _]) 17 rfl rfl ml_X12_114 (s_Mo_rowOf hB ⟨t1, t2⟩ ⟨by omega, by omega⟩) rfl rfl (Nat.le_of_ble_eq_true rfl) ⟨Nat.le_of_ble_eq_true rfl, Nat.le_of_ble_eq_true rfl⟩ rfl (Nat.le_of_ble_eq_true rfl) (fun σ' z hz => ?_))))
        rw [hz.1, hz.2]
        clear hz z σ'
        refine ok_aload_n 18 rfl rfl rfl (ok_iload_n 19 rfl rfl rfl (ok_iconst 20 rfl rfl (by decide) (ok_callVL (M' := M_Mo_rowOf) (as := [_, _]) 21 rfl rfl ml_X12_114 (s_Mo_rowOf hB ⟨t1, t2⟩ ⟨by omega, by omega⟩) rfl rfl (Nat.le_of_ble_eq_true rfl) ⟨Nat.le_of_ble_eq_true rfl, Nat.le_of_ble_eq_true rfl⟩ rfl (Nat.le_of_ble_eq_true rfl) (fun σ' z hz => ?_))))
        rw [hz.1, hz.2]
        clear hz z σ'
        refine ok_lcmp_eq 22 23 40 rfl rfl rfl rfl rfl (fun h34 => ?_) (fun h34 => ?_)
        · refine ok_inc2 26 rfl rfl rfl (by first | omega | (simp [up_if]; omega) | (simp [up_if] at *; omega)) (ok_goto 27 12 rfl rfl rfl ?_)
          exact ih (i + 1) ⟨by omega, by omega, lt_ext h3 h34⟩ (by omega)
        · refine ok_iload_n 24 rfl rfl rfl (ok_iret 25 rfl rfl rfl ?_)
          exact ⟨_, rfl, rfl, Or.inr ⟨ht, Or.inl ⟨i, h1, by omega, rfl, h34, h3⟩⟩⟩
    · omega
  · refine ok_aload_n 0 rfl rfl rfl (ok_iload_n 1 rfl rfl rfl (ok_callVI (M' := M_Mo_isTable) (as := [_]) 2 rfl rfl ml_X12_111 (s_Mo_isTable_n ht) rfl rfl (Nat.le_of_ble_eq_true rfl) ⟨Nat.le_of_ble_eq_true rfl, Nat.le_of_ble_eq_true rfl⟩ rfl (Nat.le_of_ble_eq_true rfl) (fun σ' z hz => ?_)))
    rw [hz.1, hz.2]
    clear hz z σ'
    refine ok_if_ne 3 10 rfl rfl rfl (fun h5 => ?_) (fun h5 => ?_)
    · omega
    · refine ok_iconst 4 rfl rfl (by decide) (ok_iret 5 rfl rfl rfl ?_)
      exact ⟨_, rfl, rfl, Or.inl ⟨ht, rfl⟩⟩
def evB (σ : eS) (s : Int) : Prop := tabB σ s ∧ 0 < rowB σ s 0 ∧ (∀ k, 0 ≤ k → k < σ 1 s → rowB σ s k = rowB σ s 0) ∧ (∀ k, 0 ≤ k → k < σ 1 s → colB σ s k = rowB σ s 0)
theorem unev_m1 {row col : Int → Int} {n z : Int} (h : unev row col n z) : z = -1 ↔ ((∀ k, 0 ≤ k → k < n → row k = row 0) ∧ ∀ k, 0 ≤ k → k < n → col k = row 0) := by
  rcases h with ⟨i, h1, h2, rfl, h4, h5⟩ | ⟨h1, ⟨j, h2, h3, rfl, h5, h6⟩ | ⟨rfl, h3⟩⟩
  · exact ⟨fun q => by omega, fun q => absurd (q.1 z (by omega) h2) h4⟩
  · exact ⟨fun q => by omega, fun q => absurd (q.2 j h2 h3) h5⟩
  · refine ⟨fun _ => ⟨fun k a b => ?_, h3⟩, fun _ => rfl⟩
    by_cases q : k = 0
    · rw [q]
    · exact h1 k (by omega) b
theorem s_Mo_isEven {σ : eS} {s : Int} (hB : iB1 σ) : MtI shB M_Mo_isEven [vr 0, vi s] σ (fun σ' z => σ' = σ ∧ ((z = 1 ∧ evB σ s) ∨ (z = 0 ∧ ¬ evB σ s))) := by
  refine Mt.of okM_Mo_isEven (Nat.le_of_ble_eq_true rfl) (fun hk hg => ?_)
  by_cases ht : tabB σ s
  · obtain ⟨t1, t2, t3⟩ := id ht
    refine ok_aload_n 0 rfl rfl rfl (ok_iload_n 1 rfl rfl rfl (ok_callVI (M' := M_Mo_isTable) (as := [_]) 2 rfl rfl ml_X12_111 (s_Mo_isTable_y ht) rfl rfl (Nat.le_of_ble_eq_true rfl) ⟨Nat.le_of_ble_eq_true rfl, Nat.le_of_ble_eq_true rfl⟩ rfl (Nat.le_of_ble_eq_true rfl) (fun σ' z hz => ?_)))
    rw [hz.1, hz.2]
    clear hz z σ'
    refine ok_if_eq 3 32 rfl rfl rfl (fun h5 => ?_) (fun h5 => ?_)
    · omega
    · refine ok_aload_n 4 rfl rfl rfl (ok_iload_n 5 rfl rfl rfl (ok_iconst 6 rfl rfl (by decide) (ok_callVL (M' := M_Mo_rowOf) (as := [_, _]) 7 rfl rfl ml_X12_114 (s_Mo_rowOf hB ⟨t1, t2⟩ ⟨by omega, by omega⟩) rfl rfl (Nat.le_of_ble_eq_true rfl) ⟨Nat.le_of_ble_eq_true rfl, Nat.le_of_ble_eq_true rfl⟩ rfl (Nat.le_of_ble_eq_true rfl) (fun σ' z hz => ?_))))
      rw [hz.1, hz.2]
      clear hz z σ'
      refine ok_lconst (w := 0) 8 rfl rfl rfl (by decide) (ok_lcmp_le 9 10 32 rfl rfl rfl rfl rfl (fun h15 => ?_) (fun h15 => ?_))
      · refine ok_iconst 18 rfl rfl (by decide) (ok_zret 19 rfl rfl rfl (by omega) ?_)
        exact ⟨_, rfl, rfl, Or.inr ⟨rfl, fun q => by have := q.2.1; omega⟩⟩
      · refine ok_aload_n 11 rfl rfl rfl (ok_iload_n 12 rfl rfl rfl (ok_callVI (M' := M_Mo_uneven) (as := [_]) 13 rfl rfl ml_X12_118 (s_Mo_uneven hB) rfl rfl (Nat.le_of_ble_eq_true rfl) ⟨Nat.le_of_ble_eq_true rfl, Nat.le_of_ble_eq_true rfl⟩ rfl (Nat.le_of_ble_eq_true rfl) (fun σ' z hz => ?_)))
        obtain ⟨hs, hz⟩ := hz
        rw [hs]; clear hs σ'
        have hu : unev (rowB σ s) (colB σ s) (σ 1 s) z := by
          rcases hz with ⟨q, -⟩ | ⟨-, q⟩
          · exact absurd ht q
          · exact q
        have hm := unev_m1 hu
        refine ok_iconst 14 rfl rfl (by decide) (ok_icmp_ne 15 32 rfl rfl rfl (fun h25 => ?_) (fun h25 => ?_))
        · refine ok_iconst 18 rfl rfl (by decide) (ok_zret 19 rfl rfl rfl (by omega) ?_)
          exact ⟨_, rfl, rfl, Or.inr ⟨rfl, fun q => h25 (hm.mpr q.2.2)⟩⟩
        · refine ok_iconst 16 rfl rfl (by decide) (ok_goto 17 33 rfl rfl rfl (ok_zret 19 rfl rfl rfl (by first | omega | (simp [up_if]; omega) | (simp [up_if] at *; omega)) ?_))
          exact ⟨_, rfl, rfl, Or.inl ⟨rfl, ht, by omega, hm.mp h25⟩⟩
  · refine ok_aload_n 0 rfl rfl rfl (ok_iload_n 1 rfl rfl rfl (ok_callVI (M' := M_Mo_isTable) (as := [_]) 2 rfl rfl ml_X12_111 (s_Mo_isTable_n ht) rfl rfl (Nat.le_of_ble_eq_true rfl) ⟨Nat.le_of_ble_eq_true rfl, Nat.le_of_ble_eq_true rfl⟩ rfl (Nat.le_of_ble_eq_true rfl) (fun σ' z hz => ?_)))
    rw [hz.1, hz.2]
    clear hz z σ'
    refine ok_if_eq 3 32 rfl rfl rfl (fun h5 => ?_) (fun h5 => ?_)
    · refine ok_iconst 18 rfl rfl (by decide) (ok_zret 19 rfl rfl rfl (by first | omega | (simp [up_if]; omega) | (simp [up_if] at *; omega)) ?_)
      exact ⟨_, rfl, rfl, Or.inr ⟨rfl, fun q => ht q.1⟩⟩
    · omega
/-! the tape -/
def by4 (v k : Int) : Int := iand (ishr v (24 - 8 * k)) 255
def fo (σ : eS) (t v i : Int) : eS := fun c k => if c = 0 ∧ k = 6 then t + i else if c = 5 ∧ t ≤ k ∧ k < t + i then by4 v (k - t) else σ c k
theorem fo_0 {σ : eS} {t v : Int} (h : σ 0 6 = t) : fo σ t v 0 = σ := by
  funext c k
  unfold fo
  split
  · next q => rw [q.1, q.2]; omega
  · rw [if_neg (by omega)]
theorem fo_s {σ : eS} {t v i : Int} (h : 0 ≤ i) : up (up (fo σ t v i) 5 (t + i) (by4 v i)) 0 6 (t + i + 1) = fo σ t v (i + 1) := by
  funext c k
  simp only [up_if, fo]
  by_cases h1 : c = 0 ∧ k = 6
  · simp only [if_pos h1]
    omega
  · simp only [if_neg h1]
    by_cases h2 : c = 5 ∧ k = t + i
    · simp only [if_pos h2]
      rw [if_pos ⟨h2.1, by omega, by omega⟩, h2.2]
      congr 1
      omega
    · simp only [if_neg h2]
      by_cases h3 : c = 5 ∧ t ≤ k ∧ k < t + i
      · rw [if_pos h3, if_pos ⟨h3.1, by omega, by omega⟩]
      · rw [if_neg h3, if_neg (by omega)]
theorem fo_6 (σ : eS) (t v i : Int) : fo σ t v i 0 6 = t + i := by simp [fo]
theorem s_Mo_four {σ : eS} {v t : Int} (ht : σ 0 6 = t) (h0 : 0 ≤ t ∧ t ≤ 596) : MtV shB M_Mo_four [vr 0, vi v] σ (fun σ' => σ' = fo σ t v 4) := by
  refine Mt.of okM_Mo_four (Nat.le_of_ble_eq_true rfl) (fun hk hg => ?_)
  refine ok_bipush 0 rfl rfl (by decide) (by decide) (ok_ist2 1 rfl rfl rfl ?_)
  have e := fo_0 (v := v) ht
  suffices h : ∀ i : Int, 0 ≤ i ∧ i ≤ 4 → Ok shB M_Mo_four 3 [some (vr 0), some (vi v), some (vi (24 - 8 * i))] [] (fo σ t v i) (fun σ' w => w = none ∧ σ' = fo σ t v 4) by
    have := h 0 (by omega)
    rw [e] at this
    exact this
  refine fun i hi => lpO (fun i : Int => [some (vr 0), some (vi v), some (vi (24 - 8 * i))]) (fun i => fo σ t v i) (fun i => 0 ≤ i ∧ i ≤ 4) (fun i => (4 - i).toNat) ?_ i hi
  rintro i ⟨h1, h2⟩ ih
  have e6 := fo_6 σ t v i
  refine ok_iload_n 2 rfl rfl rfl (ok_if_lt 3 39 rfl rfl rfl (fun h4 => ?_) (fun h4 => ?_))
  · refine ok_vret 22 rfl rfl rfl ?_
    exact ⟨rfl, by rw [show i = 4 by omega]⟩
  · refine ok_aload_n 4 rfl rfl rfl (ok_getR 5 rfl rfl fl_X12_23 rfl rfl (ok_aload_n 6 rfl rfl rfl (ok_getI 7 rfl rfl fl_X12_125 rfl rfl (Or.inl rfl) (ok_iload_n 8 rfl rfl rfl (ok_iload_n 9 rfl rfl rfl (ok_ishr 10 rfl rfl (ok_sipush 11 rfl rfl (by decide) (by decide) (ok_iand 12 rfl rfl (ok_iast 13 rfl rfl rfl (by omega) (ok_aload_n 14 rfl rfl rfl (ok_dup 15 rfl rfl rfl (ok_getI 16 rfl rfl fl_X12_125 rfl rfl (Or.inl rfl) (ok_iconst 17 rfl rfl (by decide) (ok_iadd 18 rfl rfl (by rw [up_ne _ _ _ _ (by decide), e6]; omega) (ok_putI 19 rfl rfl fl_X12_125 rfl rfl rfl rfl (ok_inc2 20 rfl rfl rfl (by first | omega | (simp [up_if]; omega) | (simp [up_if] at *; omega)) (ok_goto 21 3 rfl rfl rfl ?_)))))))))))))))))
    have hh := ih (i + 1) ⟨by omega, by omega⟩ (by omega)
    rw [← fo_s h1] at hh
    rw [up_ne _ _ _ _ (by decide), e6]
    rw [show (24 : Int) - 8 * i + -8 = 24 - 8 * (i + 1) by omega]
    exact hh
def fd (σ : eS) (t a b c d e : Int) : eS := fo (fo (fo (fo (fo σ t a 4) (t + 4) b 4) (t + 8) c 4) (t + 12) d 4) (t + 16) e 4
theorem s_Mo_feed {σ : eS} {a b c d e : Int} (h0 : 0 ≤ σ 0 6 ∧ σ 0 6 ≤ 600) : MtI shB M_Mo_feed [vr 0, vi a, vi b, vi c, vi d, vi e] σ (fun σ' z => (σ 0 6 + 20 ≤ 600 ∧ σ' = fd σ (σ 0 6) a b c d e ∧ z = σ 0 6 + 20) ∨ (600 < σ 0 6 + 20 ∧ σ' = σ ∧ z = -1)) := by
  refine Mt.of okM_Mo_feed (Nat.le_of_ble_eq_true rfl) (fun hk hg => ?_)
  refine ok_aload_n 0 rfl rfl rfl (ok_getI 1 rfl rfl fl_X12_125 rfl rfl (Or.inl rfl) (ok_bipush 2 rfl rfl (by decide) (by decide) (ok_iadd 3 rfl rfl (by first | omega | (simp [up_if]; omega) | (simp [up_if] at *; omega)) (ok_sipush 4 rfl rfl (by decide) (by decide) (ok_icmp_le 5 15 rfl rfl rfl (fun h10 => ?_) (fun h10 => ?_))))))
  · refine ok_aload_n 8 rfl rfl rfl (ok_iload_n 9 rfl rfl rfl (ok_callVV (M' := M_Mo_four) (as := [_]) 10 rfl rfl ml_X12_128 (s_Mo_four rfl ⟨by omega, by omega⟩) rfl rfl (Nat.le_of_ble_eq_true rfl) ⟨Nat.le_of_ble_eq_true rfl, Nat.le_of_ble_eq_true rfl⟩ rfl (Nat.le_of_ble_eq_true rfl) (fun σ' hz => ?_)))
    rw [hz]
    clear hz σ'
    refine ok_aload_n 11 rfl rfl rfl (ok_iload_n 12 rfl rfl rfl (ok_callVV (M' := M_Mo_four) (as := [_]) 13 rfl rfl ml_X12_128 (s_Mo_four (t := σ 0 6 + 4) (fo_6 _ _ _ _) ⟨by omega, by omega⟩) rfl rfl (Nat.le_of_ble_eq_true rfl) ⟨Nat.le_of_ble_eq_true rfl, Nat.le_of_ble_eq_true rfl⟩ rfl (Nat.le_of_ble_eq_true rfl) (fun σ' hz => ?_)))
    rw [hz]
    clear hz σ'
    refine ok_aload_n 14 rfl rfl rfl (ok_iload_n 15 rfl rfl rfl (ok_callVV (M' := M_Mo_four) (as := [_]) 16 rfl rfl ml_X12_128 (s_Mo_four (t := σ 0 6 + 8) (by rw [fo_6]; omega) ⟨by omega, by omega⟩) rfl rfl (Nat.le_of_ble_eq_true rfl) ⟨Nat.le_of_ble_eq_true rfl, Nat.le_of_ble_eq_true rfl⟩ rfl (Nat.le_of_ble_eq_true rfl) (fun σ' hz => ?_)))
    rw [hz]
    clear hz σ'
    refine ok_aload_n 17 rfl rfl rfl (ok_iload 18 rfl rfl rfl (ok_callVV (M' := M_Mo_four) (as := [_]) 19 rfl rfl ml_X12_128 (s_Mo_four (t := σ 0 6 + 12) (by rw [fo_6]; omega) ⟨by omega, by omega⟩) rfl rfl (Nat.le_of_ble_eq_true rfl) ⟨Nat.le_of_ble_eq_true rfl, Nat.le_of_ble_eq_true rfl⟩ rfl (Nat.le_of_ble_eq_true rfl) (fun σ' hz => ?_)))
    rw [hz]
    clear hz σ'
    refine ok_aload_n 20 rfl rfl rfl (ok_iload 21 rfl rfl rfl (ok_callVV (M' := M_Mo_four) (as := [_]) 22 rfl rfl ml_X12_128 (s_Mo_four (t := σ 0 6 + 16) (by rw [fo_6]; omega) ⟨by omega, by omega⟩) rfl rfl (Nat.le_of_ble_eq_true rfl) ⟨Nat.le_of_ble_eq_true rfl, Nat.le_of_ble_eq_true rfl⟩ rfl (Nat.le_of_ble_eq_true rfl) (fun σ' hz => ?_)))
    rw [hz]
    clear hz σ'
    refine ok_aload_n 23 rfl rfl rfl (ok_getI 24 rfl rfl fl_X12_125 rfl rfl (Or.inl rfl) (ok_iret 25 rfl rfl rfl ?_))
    exact ⟨_, rfl, Or.inl ⟨by omega, rfl, by rw [fo_6]; omega⟩⟩
  · refine ok_iconst 6 rfl rfl (by decide) (ok_iret 7 rfl rfl rfl ?_)
    exact ⟨_, rfl, Or.inr ⟨by omega, rfl, rfl⟩⟩
theorem s_Mo_end {σ : eS} {n : Int} : MtI shB M_Mo_end [vr 0, vi n] σ (fun σ' z => (0 ≤ n ∧ n ≤ σ 0 6 ∧ σ' = up σ 0 6 n ∧ z = 1) ∨ (¬ (0 ≤ n ∧ n ≤ σ 0 6) ∧ σ' = σ ∧ z = 0)) := by
  refine Mt.of okM_Mo_end (Nat.le_of_ble_eq_true rfl) (fun hk hg => ?_)
  by_cases h : 0 ≤ n ∧ n ≤ σ 0 6
  · refine ok_iload_n 0 rfl rfl rfl (ok_i2l 1 rfl rfl (ok_lconst (w := 0) 2 rfl rfl rfl (by decide) (ok_aload_n 3 rfl rfl rfl (ok_getI 4 rfl rfl fl_X12_125 rfl rfl (Or.inl rfl) (ok_i2l 5 rfl rfl (ok_callSI (M' := M_Mo_isIn) (as := [_, _, _]) 6 rfl rfl ml_X12_99 (s_Mo_isIn) ⟨Nat.le_of_ble_eq_true rfl, Nat.le_of_ble_eq_true rfl⟩ rfl (Nat.le_of_ble_eq_true rfl) (fun σ' z hz => ?_)))))))
    rw [hz.1, hz.2]; clear hz z σ'
    rw [if_pos h]
    refine ok_if_ne 7 16 rfl rfl rfl (fun h11 => ?_) (fun h11 => ?_)
    · refine ok_aload_n 10 rfl rfl rfl (ok_iload_n 11 rfl rfl rfl (ok_putI 12 rfl rfl fl_X12_125 rfl rfl rfl rfl (ok_iconst 13 rfl rfl (by decide) (ok_zret 14 rfl rfl rfl (by first | omega | (simp [up_if]; omega) | (simp [up_if] at *; omega)) ?_))))
      exact ⟨_, rfl, Or.inl ⟨h.1, h.2, rfl, rfl⟩⟩
    · omega
  · refine ok_iload_n 0 rfl rfl rfl (ok_i2l 1 rfl rfl (ok_lconst (w := 0) 2 rfl rfl rfl (by decide) (ok_aload_n 3 rfl rfl rfl (ok_getI 4 rfl rfl fl_X12_125 rfl rfl (Or.inl rfl) (ok_i2l 5 rfl rfl (ok_callSI (M' := M_Mo_isIn) (as := [_, _, _]) 6 rfl rfl ml_X12_99 (s_Mo_isIn) ⟨Nat.le_of_ble_eq_true rfl, Nat.le_of_ble_eq_true rfl⟩ rfl (Nat.le_of_ble_eq_true rfl) (fun σ' z hz => ?_)))))))
    rw [hz.1, hz.2]; clear hz z σ'
    rw [if_neg h]
    refine ok_if_ne 7 16 rfl rfl rfl (fun h11 => ?_) (fun h11 => ?_)
    · omega
    · refine ok_iconst 8 rfl rfl (by decide) (ok_zret 9 rfl rfl rfl (by first | omega | (simp [up_if]; omega) | (simp [up_if] at *; omega)) ?_)
      exact ⟨_, rfl, Or.inr ⟨h, rfl, rfl⟩⟩
def seeB (σ : eS) (k : Int) : Int := if k < σ 0 6 then σ 5 k else -1
theorem s_Mo_see {σ : eS} {k : Int} (h0 : 0 ≤ k) (h6 : σ 0 6 ≤ 600) : MtI shB M_Mo_see [vr 0, vi k] σ (fun σ' z => σ' = σ ∧ z = seeB σ k) := by
  refine Mt.of okM_Mo_see (Nat.le_of_ble_eq_true rfl) (fun hk hg => ?_)
  refine ok_iload_n 0 rfl rfl rfl (ok_aload_n 1 rfl rfl rfl (ok_getI 2 rfl rfl fl_X12_125 rfl rfl (Or.inl rfl) (ok_icmp_ge 3 17 rfl rfl rfl (fun h5 => ?_) (fun h5 => ?_))))
  · refine ok_iconst 9 rfl rfl (by decide) (ok_iret 10 rfl rfl rfl ?_)
    exact ⟨_, rfl, rfl, by unfold seeB; first | rw [if_pos (by omega)] | rw [if_neg (by omega)]⟩
  · refine ok_aload_n 4 rfl rfl rfl (ok_getR 5 rfl rfl fl_X12_23 rfl rfl (ok_iload_n 6 rfl rfl rfl (ok_iald 7 rfl rfl rfl (by first | omega | (simp [up_if]; omega) | (simp [up_if] at *; omega)) (ok_goto 8 18 rfl rfl rfl (ok_iret 10 rfl rfl rfl ?_)))))
    exact ⟨_, rfl, rfl, by unfold seeB; first | rw [if_pos (by omega)] | rw [if_neg (by omega)]⟩
end
section
/-! reading: what each step keeps -/
def P0 (σ : eS) : Prop := 0 ≤ σ 0 13 ∧ σ 0 13 ≤ σ 0 6 ∧ σ 0 6 ≤ 600
def lex (σ σ' : eS) : Prop := fr (fun c k => c = 0 ∧ 11 ≤ k ∧ k ≤ 15) σ σ' ∧ σ 0 13 ≤ σ' 0 12 ∧ σ' 0 12 ≤ σ' 0 13 ∧ σ' 0 13 ≤ σ 0 6 ∧ (σ' 0 11 = 0 ∨ σ' 0 11 = 2 ∨ σ' 0 11 = 3) ∧ (σ' 0 11 ≠ 0 → σ' 0 12 < σ' 0 13) ∧ 0 ≤ σ' 0 14 ∧ σ' 0 14 ≤ 999999
theorem seeB_lt {σ : eS} {k : Int} (h : seeB σ k ≠ -1) : k < σ 0 6 := by
  unfold seeB at h
  split at h
  · next q => exact q
  · exact absurd rfl h
def p10 (d : Int) : Int := if d ≤ 0 then 0 else if d = 1 then 9 else if d = 2 then 99 else if d = 3 then 999 else if d = 4 then 9999 else if d = 5 then 99999 else 999999
theorem p10_s {d x c : Int} (h0 : 0 ≤ d) (h1 : d < 6) (hx : x ≤ p10 d) (hc : c ≤ 9) : 10 * x + c ≤ p10 (d + 1) := by
  have : d = 0 ∨ d = 1 ∨ d = 2 ∨ d = 3 ∨ d = 4 ∨ d = 5 := by omega
  rcases this with rfl | rfl | rfl | rfl | rfl | rfl <;> simp [p10] at hx ⊢ <;> omega
theorem p10_m {d : Int} (h0 : 6 ≤ d) : p10 d = 999999 := by
  unfold p10
  repeat rw [if_neg (by omega)]
theorem p10_le (d : Int) : p10 d ≤ 999999 := by
  unfold p10
  repeat (split; omega)
  omega
theorem s_Mo_next {σ : eS} (h : P0 σ) : MtV shB M_Mo_next [vr 0] σ (fun σ' => lex σ σ') := by
  refine Mt.of okM_Mo_next (Nat.le_of_ble_eq_true rfl) (fun hk hg => ?_)
  obtain ⟨p1, p2, p3⟩ := h
  refine lpO (fun _ : eS => [some (vr 0), none]) (fun τ => τ) (fun τ => fr (fun c k => c = 0 ∧ k = 13) σ τ ∧ σ 0 13 ≤ τ 0 13 ∧ τ 0 13 ≤ σ 0 6) (fun τ => (600 - τ 0 13).toNat) ?_ σ ⟨fr.rf, by omega, by omega⟩
  rintro τ ⟨f, h1, h2⟩ ih
  have f6 : τ 0 6 = σ 0 6 := f 0 6 (by omega)
  refine ok_aload_n 0 rfl rfl rfl (ok_aload_n 1 rfl rfl rfl (ok_getI 2 rfl rfl fl_X12_132 rfl rfl (Or.inl rfl) (ok_callVI (M' := M_Mo_see) (as := [_]) 3 rfl rfl ml_X12_135 (s_Mo_see (by omega) (by omega)) rfl rfl (Nat.le_of_ble_eq_true rfl) ⟨Nat.le_of_ble_eq_true rfl, Nat.le_of_ble_eq_true rfl⟩ rfl (Nat.le_of_ble_eq_true rfl) (fun σ' z hz => ?_))))
  rw [hz.1, hz.2]
  clear hz z σ'
  refine ok_bipush 4 rfl rfl (by decide) (by decide) (ok_icmp_eq 5 26 rfl rfl rfl (fun h10 => ?_) (fun h10 => ?_))
  · have hl : τ 0 13 < τ 0 6 := seeB_lt (by omega)
    refine ok_aload_n 12 rfl rfl rfl (ok_dup 13 rfl rfl rfl (ok_getI 14 rfl rfl fl_X12_132 rfl rfl (Or.inl rfl) (ok_iconst 15 rfl rfl (by decide) (ok_iadd 16 rfl rfl (by first | omega | (simp [up_if]; omega) | (simp [up_if] at *; omega)) (ok_putI 17 rfl rfl fl_X12_132 rfl rfl rfl rfl (ok_goto 18 0 rfl rfl rfl ?_))))))
    exact ih _ ⟨fr_up f ⟨rfl, rfl⟩, by rw [up_same]; omega, by rw [up_same]; omega⟩ (by rw [up_same]; omega)
  · refine ok_aload_n 6 rfl rfl rfl (ok_aload_n 7 rfl rfl rfl (ok_getI 8 rfl rfl fl_X12_132 rfl rfl (Or.inl rfl) (ok_callVI (M' := M_Mo_see) (as := [_]) 9 rfl rfl ml_X12_135 (s_Mo_see (by omega) (by omega)) rfl rfl (Nat.le_of_ble_eq_true rfl) ⟨Nat.le_of_ble_eq_true rfl, Nat.le_of_ble_eq_true rfl⟩ rfl (Nat.le_of_ble_eq_true rfl) (fun σ' z hz => ?_))))
    rw [hz.1, hz.2]
    clear hz z σ'
    refine ok_bipush 10 rfl rfl (by decide) (by decide) (ok_icmp_ne 11 39 rfl rfl rfl (fun h23 => ?_) (fun h23 => ?_))
    · obtain ⟨τ1, e1⟩ : ∃ x, x = up (up (up τ 0 12 (τ 0 13)) 0 14 0) 0 15 0 := ⟨_, rfl⟩
      have g1 : fr (fun c k => c = 0 ∧ 11 ≤ k ∧ k ≤ 15) σ τ1 := by
        rw [e1]
        exact fr_up (fr_up (fr_up (f.mono (fun c k q => by omega)) (by omega)) (by omega)) (by omega)
      have g12 : τ1 0 12 = τ 0 13 := by rw [e1]; simp [up_if]
      have g13 : τ1 0 13 = τ 0 13 := by rw [e1]; simp [up_if]
      have g14 : τ1 0 14 = 0 := by rw [e1]; simp [up_if]
      have g6 : τ1 0 6 = σ 0 6 := by rw [e1]; simp [up_if, f6]
      refine ok_aload_n 19 rfl rfl rfl (ok_aload_n 20 rfl rfl rfl (ok_getI 21 rfl rfl fl_X12_132 rfl rfl (Or.inl rfl) (ok_putI 22 rfl rfl fl_X12_138 rfl rfl rfl rfl (ok_aload_n 23 rfl rfl rfl (ok_aload_n 24 rfl rfl rfl (ok_getI 25 rfl rfl fl_X12_132 rfl rfl (Or.inl rfl) (ok_callVI (M' := M_Mo_see) (as := [_]) 26 rfl rfl ml_X12_135 (s_Mo_see (by simp [up_if]; omega) (by simp [up_if]; omega)) rfl rfl (Nat.le_of_ble_eq_true rfl) ⟨Nat.le_of_ble_eq_true rfl, Nat.le_of_ble_eq_true rfl⟩ rfl (Nat.le_of_ble_eq_true rfl) (fun σ' z hz => ?_))))))))
      obtain ⟨hs_, hz⟩ := hz
      rw [hs_]; clear hs_ σ'
      refine ok_ist1 27 rfl rfl rfl (ok_aload_n 28 rfl rfl rfl (ok_iconst 29 rfl rfl (by decide) (ok_putI 30 rfl rfl fl_X12_141 rfl rfl rfl rfl (ok_aload_n 31 rfl rfl rfl (ok_iconst 32 rfl rfl (by decide) (ok_putI 33 rfl rfl fl_X12_144 rfl rfl rfl rfl ?_))))))
      rw [← e1]
      refine ok_iload_n 34 rfl rfl rfl (ok_iconst 35 rfl rfl (by decide) (ok_icmp_ne 36 79 rfl rfl rfl (fun h68 => ?_) (fun h68 => ?_)))
      · refine ok_iload_n 41 rfl rfl rfl (ok_i2l 42 rfl rfl (ok_ldc2 43 (48) rfl rfl kc_X12_150 (by decide) (ok_ldc2 44 (57) rfl rfl kc_X12_152 (by decide) (ok_callSI (M' := M_Mo_isIn) (as := [_, _, _]) 45 rfl rfl ml_X12_99 (s_Mo_isIn) ⟨Nat.le_of_ble_eq_true rfl, Nat.le_of_ble_eq_true rfl⟩ rfl (Nat.le_of_ble_eq_true rfl) (fun σ' w hw => ?_)))))
        obtain ⟨hs_, hw⟩ := hw
        rw [hs_]; clear hs_ σ'
        refine ok_if_eq 46 169 rfl rfl rfl (fun h90 => ?_) (fun h90 => ?_)
        · refine ok_aload_n 86 rfl rfl rfl (ok_iconst 87 rfl rfl (by decide) (ok_putI 88 rfl rfl fl_X12_147 rfl rfl rfl rfl (ok_aload_n 89 rfl rfl rfl (ok_iload_n 90 rfl rfl rfl (ok_putI 91 rfl rfl fl_X12_144 rfl rfl rfl rfl (ok_aload_n 92 rfl rfl rfl (ok_dup 93 rfl rfl rfl (ok_getI 94 rfl rfl fl_X12_132 rfl rfl (Or.inl rfl) (ok_iconst 95 rfl rfl (by decide) (ok_iadd 96 rfl rfl (by first | omega | (simp [up_if]; omega) | (simp [up_if] at *; omega)) (ok_putI 97 rfl rfl fl_X12_132 rfl rfl rfl rfl (ok_vret 98 rfl rfl rfl ?_))))))))))))
          have hq : z = seeB τ (τ 0 13) := by rw [hz]; simp [seeB, up_if]
          first
            | exact ⟨rfl, fr_up g1 (by omega), by simp [up_if]; omega, by simp [up_if]; omega, by simp [up_if]; omega, by simp [up_if], by simp [up_if], by simp [up_if]; omega, by simp [up_if]; omega⟩
            | (have hl : τ 0 13 < τ 0 6 := seeB_lt (by omega)
               exact ⟨rfl, fr_up (fr_up (fr_up g1 (by omega)) (by omega)) (by omega), by simp [up_if]; omega, by simp [up_if]; omega, by simp [up_if]; omega, by simp [up_if], by simp [up_if]; omega, by simp [up_if]; omega, by simp [up_if]; omega⟩)
        · refine ok_aload_n 47 rfl rfl rfl (ok_iconst 48 rfl rfl (by decide) (ok_putI 49 rfl rfl fl_X12_147 rfl rfl rfl rfl ?_))
          have hd : 48 ≤ z ∧ z ≤ 57 := by
            by_cases q : 48 ≤ z ∧ z ≤ 57
            · exact q
            · rw [if_neg q] at hw; omega
          have hz13 : z = seeB (up τ1 0 11 2) (τ 0 13) := by
            rw [hz, e1]; simp [seeB, up_if]
          refine lpO (fun _ : eS => [some (vr 0), some (vi z)]) (fun τ => τ) (fun ρ => fr (fun c k => c = 0 ∧ 11 ≤ k ∧ k ≤ 15) σ ρ ∧ ρ 0 11 = 2 ∧ ρ 0 12 = τ 0 13 ∧ (τ 0 13 < ρ 0 13 ∨ (ρ 0 13 = τ 0 13 ∧ 48 ≤ seeB ρ (ρ 0 13) ∧ seeB ρ (ρ 0 13) ≤ 57)) ∧ ρ 0 13 ≤ σ 0 6 ∧ 0 ≤ ρ 0 14 ∧ ρ 0 14 ≤ p10 (ρ 0 13 - ρ 0 12)) (fun ρ => (600 - ρ 0 13).toNat) ?_ (up τ1 0 11 2) ⟨fr_up g1 (by omega), by simp [up_if], by simp [up_if]; omega, Or.inr ⟨by simp [up_if]; omega, by rw [up_nk _ _ _ _ (by decide), g13, ← hz13]; exact hd⟩, by simp [up_if]; omega, by simp [up_if]; omega, by simp [up_if, g12, g13, g14, p10]⟩
          rintro ρ ⟨r1, r2, r3, r4, r5, r6, r7⟩ ihh
          have r0 : ρ 0 6 = σ 0 6 := r1 0 6 (by omega)
          have rp := p10_le (ρ 0 13 - ρ 0 12)
          refine ok_aload_n 50 rfl rfl rfl (ok_aload_n 51 rfl rfl rfl (ok_getI 52 rfl rfl fl_X12_132 rfl rfl (Or.inl rfl) (ok_callVI (M' := M_Mo_see) (as := [_]) 53 rfl rfl ml_X12_135 (s_Mo_see (by omega) (by omega)) rfl rfl (Nat.le_of_ble_eq_true rfl) ⟨Nat.le_of_ble_eq_true rfl, Nat.le_of_ble_eq_true rfl⟩ rfl (Nat.le_of_ble_eq_true rfl) (fun σ' z hz => ?_))))
          rw [hz.1, hz.2]
          clear hz z σ'
          refine ok_i2l 54 rfl rfl (ok_ldc2 55 (48) rfl rfl kc_X12_150 (by decide) (ok_ldc2 56 (57) rfl rfl kc_X12_152 (by decide) (ok_callSI (M' := M_Mo_isIn) (as := [_, _, _]) 57 rfl rfl ml_X12_99 (s_Mo_isIn) ⟨Nat.le_of_ble_eq_true rfl, Nat.le_of_ble_eq_true rfl⟩ rfl (Nat.le_of_ble_eq_true rfl) (fun σ' w hw => ?_))))
          obtain ⟨hs_, hw⟩ := hw
          rw [hs_]; clear hs_ σ'
          refine ok_if_eq 58 189 rfl rfl rfl (fun h116 => ?_) (fun h116 => ?_)
          · refine ok_vret 98 rfl rfl rfl ?_
            have hn : ¬ (48 ≤ seeB ρ (ρ 0 13) ∧ seeB ρ (ρ 0 13) ≤ 57) := fun q => by rw [if_pos q] at hw; omega
            exact ⟨rfl, r1, by omega, by omega, by omega, by omega, fun _ => by omega, by omega, by omega⟩
          · have hd : 48 ≤ seeB ρ (ρ 0 13) ∧ seeB ρ (ρ 0 13) ≤ 57 := by
              by_cases q : 48 ≤ seeB ρ (ρ 0 13) ∧ seeB ρ (ρ 0 13) ≤ 57
              · exact q
              · rw [if_neg q] at hw; omega
            have hl : ρ 0 13 < ρ 0 6 := seeB_lt (by omega)
            refine ok_aload_n 59 rfl rfl rfl (ok_getI 60 rfl rfl fl_X12_132 rfl rfl (Or.inl rfl) (ok_aload_n 61 rfl rfl rfl (ok_getI 62 rfl rfl fl_X12_138 rfl rfl (Or.inl rfl) (ok_isub 63 rfl rfl (by first | omega | (simp [up_if]; omega) | (simp [up_if] at *; omega)) (ok_bipush 64 rfl rfl (by decide) (by decide) (ok_icmp_ge 65 156 rfl rfl rfl (fun h130 => ?_) (fun h130 => ?_)))))))
            · refine ok_aload_n 79 rfl rfl rfl (ok_dup 80 rfl rfl rfl (ok_getI 81 rfl rfl fl_X12_132 rfl rfl (Or.inl rfl) (ok_iconst 82 rfl rfl (by decide) (ok_iadd 83 rfl rfl (by first | omega | (simp [up_if]; omega) | (simp [up_if] at *; omega)) (ok_putI 84 rfl rfl fl_X12_132 rfl rfl rfl rfl (ok_goto 85 98 rfl rfl rfl ?_))))))
              refine ihh _ ⟨fr_up r1 (by omega), by simp [up_if]; omega, by simp [up_if]; omega, Or.inl (by rw [up_same]; omega), by rw [up_same]; omega, by simp [up_if]; omega, ?_⟩ (by rw [up_same]; omega)
              rw [up_same, up_nk _ _ _ _ (by decide), up_nk _ _ _ _ (by decide), p10_m (by omega)]
              rw [p10_m (by omega)] at r7
              exact r7
            · refine ok_aload_n 66 rfl rfl rfl (ok_bipush 67 rfl rfl (by decide) (by decide) (ok_aload_n 68 rfl rfl rfl (ok_getI 69 rfl rfl fl_X12_141 rfl rfl (Or.inl rfl) (ok_imul 70 rfl rfl (by first | omega | (simp [up_if]; omega) | (simp [up_if] at *; omega)) (ok_aload_n 71 rfl rfl rfl (ok_aload_n 72 rfl rfl rfl (ok_getI 73 rfl rfl fl_X12_132 rfl rfl (Or.inl rfl) (ok_callVI (M' := M_Mo_see) (as := [_]) 74 rfl rfl ml_X12_135 (s_Mo_see (by omega) (by omega)) rfl rfl (Nat.le_of_ble_eq_true rfl) ⟨Nat.le_of_ble_eq_true rfl, Nat.le_of_ble_eq_true rfl⟩ rfl (Nat.le_of_ble_eq_true rfl) (fun σ' z hz => ?_)))))))))
              rw [hz.1, hz.2]
              clear hz z σ'
              refine ok_iadd 75 rfl rfl (by first | omega | (simp [up_if]; omega) | (simp [up_if] at *; omega)) (ok_bipush 76 rfl rfl (by decide) (by decide) (ok_isub 77 rfl rfl (by first | omega | (simp [up_if]; omega) | (simp [up_if] at *; omega)) (ok_putI 78 rfl rfl fl_X12_141 rfl rfl rfl rfl (ok_aload_n 79 rfl rfl rfl (ok_dup 80 rfl rfl rfl (ok_getI 81 rfl rfl fl_X12_132 rfl rfl (Or.inl rfl) (ok_iconst 82 rfl rfl (by decide) (ok_iadd 83 rfl rfl (by first | omega | (simp [up_if]; omega) | (simp [up_if] at *; omega)) (ok_putI 84 rfl rfl fl_X12_132 rfl rfl rfl rfl (ok_goto 85 98 rfl rfl rfl ?_))))))))))
              have hp := p10_s (d := ρ 0 13 - ρ 0 12) (x := ρ 0 14) (c := seeB ρ (ρ 0 13) - 48) (by omega) (by omega) r7 (by omega)
              refine ihh _ ⟨fr_up (fr_up r1 (by omega)) (by omega), by simp [up_if]; omega, by simp [up_if]; omega, Or.inl (by simp [up_if]; omega), by simp [up_if]; omega, by simp [up_if]; omega, ?_⟩ (by simp [up_if]; omega)
              have e : ρ 0 13 + 1 - ρ 0 12 = ρ 0 13 - ρ 0 12 + 1 := by omega
              simp [up_if, e]
              omega
      · refine ok_aload_n 37 rfl rfl rfl (ok_iconst 38 rfl rfl (by decide) (ok_putI 39 rfl rfl fl_X12_147 rfl rfl rfl rfl (ok_goto 40 189 rfl rfl rfl (ok_vret 98 rfl rfl rfl ?_))))
        have hq : z = seeB τ (τ 0 13) := by rw [hz]; simp [seeB, up_if]
        first
          | exact ⟨rfl, fr_up g1 (by omega), by simp [up_if]; omega, by simp [up_if]; omega, by simp [up_if]; omega, by simp [up_if], by simp [up_if], by simp [up_if]; omega, by simp [up_if]; omega⟩
          | (have hl : τ 0 13 < τ 0 6 := seeB_lt (by omega)
             exact ⟨rfl, fr_up (fr_up (fr_up g1 (by omega)) (by omega)) (by omega), by simp [up_if]; omega, by simp [up_if]; omega, by simp [up_if]; omega, by simp [up_if], by simp [up_if]; omega, by simp [up_if]; omega, by simp [up_if]; omega⟩)
    · have hl : τ 0 13 < τ 0 6 := seeB_lt (by omega)
      refine ok_aload_n 12 rfl rfl rfl (ok_dup 13 rfl rfl rfl (ok_getI 14 rfl rfl fl_X12_132 rfl rfl (Or.inl rfl) (ok_iconst 15 rfl rfl (by decide) (ok_iadd 16 rfl rfl (by first | omega | (simp [up_if]; omega) | (simp [up_if] at *; omega)) (ok_putI 17 rfl rfl fl_X12_132 rfl rfl rfl rfl (ok_goto 18 0 rfl rfl rfl ?_))))))
      exact ih _ ⟨fr_up f ⟨rfl, rfl⟩, by rw [up_same]; omega, by rw [up_same]; omega⟩ (by rw [up_same]; omega)
end
section
theorem s_Mo_fails {σ : eS} {k : Int} (hk0 : k ≠ 0) : MtI shB M_Mo_fails [vr 0, vi k] σ (fun σ' z => z = 0 ∧ fr (fun c k => c = 0 ∧ (k = 9 ∨ k = 10)) σ σ' ∧ σ' 0 9 ≠ 0) := by
  refine Mt.of okM_Mo_fails (Nat.le_of_ble_eq_true rfl) (fun hk hg => ?_)
  refine ok_aload_n 0 rfl rfl rfl (ok_getI 1 rfl rfl fl_X12_154 rfl rfl (Or.inl rfl) (ok_if_ne 2 20 rfl rfl rfl (fun h4 => ?_) (fun h4 => ?_)))
  · refine ok_iconst 10 rfl rfl (by decide) (ok_zret 11 rfl rfl rfl (by first | omega | (simp [up_if]; omega) | (simp [up_if] at *; omega)) ?_)
    exact ⟨_, rfl, rfl, fr.rf, h4⟩
  · refine ok_aload_n 3 rfl rfl rfl (ok_iload_n 4 rfl rfl rfl (ok_putI 5 rfl rfl fl_X12_154 rfl rfl rfl rfl (ok_aload_n 6 rfl rfl rfl (ok_aload_n 7 rfl rfl rfl (ok_getI 8 rfl rfl fl_X12_138 rfl rfl (Or.inl rfl) (ok_putI 9 rfl rfl fl_X12_157 rfl rfl rfl rfl (ok_iconst 10 rfl rfl (by decide) (ok_zret 11 rfl rfl rfl (by first | omega | (simp [up_if]; omega) | (simp [up_if] at *; omega)) ?_))))))))
    exact ⟨_, rfl, rfl, fr_up (fr_up fr.rf (by omega)) (by omega), by simp [up_if]; exact hk0⟩
def Pz (σ : eS) : Prop := 0 ≤ σ 0 12 ∧ σ 0 12 ≤ σ 0 13 ∧ σ 0 13 ≤ σ 0 6 ∧ σ 0 6 ≤ 600 ∧ (σ 0 11 = 0 ∨ σ 0 11 = 2 ∨ σ 0 11 = 3) ∧ (σ 0 11 ≠ 0 → σ 0 12 < σ 0 13) ∧ 0 ≤ σ 0 14 ∧ σ 0 14 ≤ 999999
theorem Pz.of {σ σ' : eS} (h : P0 σ) (hl : lex σ σ') : Pz σ' := by
  obtain ⟨h1, h2, h3⟩ := h
  obtain ⟨f, l1, l2, l3, l4, l5, l6⟩ := hl
  have f6 := f 0 6 (by omega)
  exact ⟨by omega, by omega, by omega, by omega, l4, l5, l6⟩
theorem Pz.P0 {σ : eS} (h : Pz σ) : P0 σ := ⟨by have := h.1; have := h.2.1; omega, h.2.2.1, h.2.2.2.1⟩
theorem Pz.fr {σ σ' : eS} (h : Pz σ) (f : fr (fun c k => c ≠ 0 ∨ (k < 6 ∨ (6 < k ∧ k < 11) ∨ 15 < k)) σ σ') : Pz σ' := by
  unfold Pz
  rw [f 0 12 (by omega), f 0 13 (by omega), f 0 6 (by omega), f 0 11 (by omega), f 0 14 (by omega)]
  exact h
def numB (σ : eS) : Prop := σ 0 11 = 2 ∧ σ 0 13 - σ 0 12 ≤ 6
theorem s_Mo_isNumber {σ : eS} (h : Pz σ) : MtI shB M_Mo_isNumber [vr 0] σ (fun σ' z => σ' = σ ∧ ((z = 1 ∧ numB σ) ∨ (z = 0 ∧ ¬ numB σ))) := by
  refine Mt.of okM_Mo_isNumber (Nat.le_of_ble_eq_true rfl) (fun hk hg => ?_)
  obtain ⟨h1, h2, h3, h4, -⟩ := h
  refine ok_aload_n 0 rfl rfl rfl (ok_getI 1 rfl rfl fl_X12_147 rfl rfl (Or.inl rfl) (ok_iconst 2 rfl rfl (by decide) (ok_icmp_ne 3 26 rfl rfl rfl (fun h5 => ?_) (fun h5 => ?_))))
  · refine ok_iconst 13 rfl rfl (by decide) (ok_zret 14 rfl rfl rfl (by first | omega | (simp [up_if]; omega) | (simp [up_if] at *; omega)) ?_)
    exact ⟨_, rfl, rfl, by unfold numB; omega⟩
  · refine ok_aload_n 4 rfl rfl rfl (ok_getI 5 rfl rfl fl_X12_132 rfl rfl (Or.inl rfl) (ok_aload_n 6 rfl rfl rfl (ok_getI 7 rfl rfl fl_X12_138 rfl rfl (Or.inl rfl) (ok_isub 8 rfl rfl (by first | omega | (simp [up_if]; omega) | (simp [up_if] at *; omega)) (ok_bipush 9 rfl rfl (by decide) (by decide) (ok_icmp_gt 10 26 rfl rfl rfl (fun h19 => ?_) (fun h19 => ?_)))))))
    · refine ok_iconst 13 rfl rfl (by decide) (ok_zret 14 rfl rfl rfl (by first | omega | (simp [up_if]; omega) | (simp [up_if] at *; omega)) ?_)
      exact ⟨_, rfl, rfl, by unfold numB; omega⟩
    · refine ok_iconst 11 rfl rfl (by decide) (ok_goto 12 27 rfl rfl rfl (ok_zret 14 rfl rfl rfl (by first | omega | (simp [up_if]; omega) | (simp [up_if] at *; omega)) ?_))
      exact ⟨_, rfl, rfl, by unfold numB; omega⟩
def uOk (σ : eS) (k : Int) : Prop := 1 ≤ σ 7 k ∧ σ 7 k ≤ 999999 ∧ 0 ≤ σ 6 k ∧ σ 6 k ≤ 999999
abbrev rgF : Nat → Int → Prop := fun c k => (c = 0 ∧ 9 ≤ k ∧ k ≤ 15) ∨ c = 6 ∨ c = 7
def QrF (σ : eS) (k : Int) (σ' : eS) (z : Int) : Prop := fr rgF σ σ' ∧ Pz σ' ∧ ((z = 0 ∧ σ' 0 9 ≠ 0) ∨ (z = 1 ∧ σ 0 12 < σ' 0 12 ∧ σ' 0 9 = σ 0 9 ∧ k < 8 ∧ (0 < σ 0 18 → k ≠ σ 0 19) ∧ uOk σ' (8 * σ 0 18 + k) ∧ ∀ j, j ≠ 8 * σ 0 18 + k → σ' 6 j = σ 6 j ∧ σ' 7 j = σ 7 j))
theorem s_Mo_readFraction {σ : eS} {k : Int} (h : Pz σ) (hk0 : 0 ≤ k ∧ k ≤ 8) (hr : 0 ≤ σ 0 18 ∧ σ 0 18 ≤ 7) : MtI shB M_Mo_readFraction [vr 0, vi k] σ (QrF σ k) := by
  refine Mt.of okM_Mo_readFraction (Nat.le_of_ble_eq_true rfl) (fun hk hg => ?_)
  have hfail : ∀ (τ σ' : eS) (z : Int), fr rgF σ τ → Pz τ → z = 0 ∧ fr (fun c k => c = 0 ∧ (k = 9 ∨ k = 10)) τ σ' ∧ σ' 0 9 ≠ 0 → QrF σ k σ' z := fun τ σ' z f0 p0 hz =>
    ⟨f0.tr (hz.2.1.mono (fun c k q => by simp only [rgF]; omega)), p0.fr (hz.2.1.mono (fun c k q => by omega)), Or.inl ⟨hz.1, hz.2.2⟩⟩
  obtain ⟨h1, h2, h3, h4, h5, h6, h7, h8⟩ := id h
  refine ok_aload_n 0 rfl rfl rfl (ok_callVI (M' := M_Mo_isNumber) (as := []) 1 rfl rfl ml_X12_160 (s_Mo_isNumber h) rfl rfl (Nat.le_of_ble_eq_true rfl) ⟨Nat.le_of_ble_eq_true rfl, Nat.le_of_ble_eq_true rfl⟩ rfl (Nat.le_of_ble_eq_true rfl) (fun σ' z hz => ?_))
  obtain ⟨hs_, hz⟩ := hz
  rw [hs_]; clear hs_ σ'
  refine ok_if_ne 2 13 rfl rfl rfl (fun h4 => ?_) (fun h4 => ?_)
  · refine ok_iload_n 7 rfl rfl rfl (ok_bipush 8 rfl rfl (by decide) (by decide) (ok_icmp_ne 9 25 rfl rfl rfl (fun h16 => ?_) (fun h16 => ?_)))
    · refine ok_aload_n 14 rfl rfl rfl (ok_getI 15 rfl rfl fl_X12_167 rfl rfl (Or.inl rfl) (ok_if_le 16 46 rfl rfl rfl (fun h29 => ?_) (fun h29 => ?_)))
      · have hn : numB σ := by
          rcases hz with q | q
          · exact q.2
          · omega
        have hw : 0 < σ 0 18 → k ≠ σ 0 19 := by omega
        clear z hz h4 
        refine ok_bipush 25 rfl rfl (by decide) (by decide) (ok_aload_n 26 rfl rfl rfl (ok_getI 27 rfl rfl fl_X12_167 rfl rfl (Or.inl rfl) (ok_imul 28 rfl rfl (by first | omega | (have q1 := f2 0 18; have q2 := f2 0 19; omega)) (ok_iload_n 29 rfl rfl rfl (ok_iadd 30 rfl rfl (by first | omega | (have q1 := f2 0 18; have q2 := f2 0 19; omega)) (ok_ist2 31 rfl rfl rfl (ok_aload_n 32 rfl rfl rfl (ok_getR 33 rfl rfl fl_X12_30 rfl rfl (ok_iload_n 34 rfl rfl rfl (ok_aload_n 35 rfl rfl rfl (ok_getI 36 rfl rfl fl_X12_141 rfl rfl (Or.inl rfl) (ok_iast 37 rfl rfl rfl (by first | omega | (have q1 := f2 0 18; have q2 := f2 0 19; omega)) (ok_aload_n 38 rfl rfl rfl (ok_getR 39 rfl rfl fl_X12_33 rfl rfl (ok_iload_n 40 rfl rfl rfl (ok_iconst 41 rfl rfl (by decide) (ok_iast 42 rfl rfl rfl (by first | omega | (have q1 := f2 0 18; have q2 := f2 0 19; omega)) ?_)))))))))))))))))
        obtain ⟨τ, e1⟩ : ∃ x, x = up (up σ 6 (8 * σ 0 18 + k) (σ 0 14)) 7 (8 * σ 0 18 + k) 1 := ⟨_, rfl⟩
        have f1 : fr rgF σ τ := by rw [e1]; exact fr_up (fr_up fr.rf (by simp [rgF])) (by simp [rgF])
        have pt : Pz τ := h.fr (by rw [e1]; exact fr_up (fr_up fr.rf (by omega)) (by omega))
        have u1 : uOk τ (8 * σ 0 18 + k) := by rw [e1]; unfold uOk; simp [up_if]; omega
        have o1 : ∀ j, j ≠ 8 * σ 0 18 + k → τ 6 j = σ 6 j ∧ τ 7 j = σ 7 j := fun j hj => by rw [e1]; simp [up_if, hj]
        have t12 : τ 0 12 = σ 0 12 := by rw [e1]; simp [up_if]
        have t13 : τ 0 13 = σ 0 13 := by rw [e1]; simp [up_if]
        have t9 : τ 0 9 = σ 0 9 := by rw [e1]; simp [up_if]
        clear h
        first | (simp only [up_ne _ _ _ _ (show (0 : Nat) ≠ 6 by decide)]; rw [← e1]) | rw [← e1]
        clear e1
        refine ok_aload_n 43 rfl rfl rfl (ok_callVV (M' := M_Mo_next) (as := []) 44 rfl rfl ml_X12_173 (s_Mo_next pt.P0) rfl rfl (Nat.le_of_ble_eq_true rfl) ⟨Nat.le_of_ble_eq_true rfl, Nat.le_of_ble_eq_true rfl⟩ rfl (Nat.le_of_ble_eq_true rfl) (fun τ1 hl => ?_))
        have p1 := Pz.of pt.P0 hl
        have f2 : fr rgF σ τ1 := f1.tr (hl.1.mono (fun c k q => by simp only [rgF]; omega))
        have l9 := hl.1 0 9 (by omega)
        have l12 := hl.2.1
        have l7 : ∀ j, τ1 7 j = τ 7 j := fun j => hl.1 7 j (by omega)
        have l6 : ∀ j, τ1 6 j = τ 6 j := fun j => hl.1 6 j (by omega)
        have hfrom : σ 0 12 < σ 0 13 := h6 (by have := hn.1; omega)
        refine ok_aload_n 45 rfl rfl rfl (ok_getI 46 rfl rfl fl_X12_147 rfl rfl (Or.inl rfl) (ok_iconst 47 rfl rfl (by decide) (ok_icmp_ne 48 94 rfl rfl rfl (fun h82 => ?_) (fun h82 => ?_))))
        · refine ok_iconst 53 rfl rfl (by decide) (ok_zret 54 rfl rfl rfl (by first | omega | (simp [up_if]; omega) | (simp [up_if] at *; omega)) ?_)
          refine ⟨_, rfl, f2, p1, Or.inr ⟨rfl, by omega, by omega, by omega, hw, ?_, fun j hj => ?_⟩⟩
          · unfold uOk; rw [l7, l6]; exact u1
          · rw [l7, l6]; exact o1 j hj
        · refine ok_aload_n 49 rfl rfl rfl (ok_getI 50 rfl rfl fl_X12_144 rfl rfl (Or.inl rfl) (ok_bipush 51 rfl rfl (by decide) (by decide) (ok_icmp_eq 52 96 rfl rfl rfl (fun h91 => ?_) (fun h91 => ?_))))
          · refine ok_aload_n 55 rfl rfl rfl (ok_callVV (M' := M_Mo_next) (as := []) 56 rfl rfl ml_X12_173 (s_Mo_next p1.P0) rfl rfl (Nat.le_of_ble_eq_true rfl) ⟨Nat.le_of_ble_eq_true rfl, Nat.le_of_ble_eq_true rfl⟩ rfl (Nat.le_of_ble_eq_true rfl) (fun τ2 hl2 => ?_))
            have p2 := Pz.of p1.P0 hl2
            have f3 : fr rgF σ τ2 := f2.tr (hl2.1.mono (fun c k q => by simp only [rgF]; omega))
            have m9 := hl2.1 0 9 (by omega)
            have m7 : ∀ j, τ2 7 j = τ1 7 j := fun j => hl2.1 7 j (by omega)
            have m6 : ∀ j, τ2 6 j = τ1 6 j := fun j => hl2.1 6 j (by omega)
            have m12 := hl2.2.1
            have k12 := p1.2.1
            have q14 : 0 ≤ τ2 0 14 ∧ τ2 0 14 ≤ 999999 := hl2.2.2.2.2.2.2
            refine ok_aload_n 57 rfl rfl rfl (ok_callVI (M' := M_Mo_isNumber) (as := []) 58 rfl rfl ml_X12_160 (s_Mo_isNumber p2) rfl rfl (Nat.le_of_ble_eq_true rfl) ⟨Nat.le_of_ble_eq_true rfl, Nat.le_of_ble_eq_true rfl⟩ rfl (Nat.le_of_ble_eq_true rfl) (fun σ' z hz => ?_))
            obtain ⟨hs_, hz⟩ := hz
            rw [hs_]; clear hs_ σ'
            refine ok_if_ne 59 113 rfl rfl rfl (fun h104 => ?_) (fun h104 => ?_)
            · refine ok_aload_n 64 rfl rfl rfl (ok_getI 65 rfl rfl fl_X12_141 rfl rfl (Or.inl rfl) (ok_if_ne 66 126 rfl rfl rfl (fun h117 => ?_) (fun h117 => ?_)))
              · refine ok_aload_n 71 rfl rfl rfl (ok_getR 72 rfl rfl fl_X12_33 rfl rfl (ok_iload_n 73 rfl rfl rfl (ok_aload_n 74 rfl rfl rfl (ok_getI 75 rfl rfl fl_X12_141 rfl rfl (Or.inl rfl) (ok_iast 76 rfl rfl rfl (by first | omega | (have q1 := f2 0 18; have q2 := f2 0 19; omega)) ?_)))))
                obtain ⟨τ3, e3⟩ : ∃ x, x = up τ2 7 (8 * σ 0 18 + k) (τ2 0 14) := ⟨_, rfl⟩
                have p3 : Pz τ3 := p2.fr (by rw [e3]; exact fr_up fr.rf (by omega))
                have f4 : fr rgF σ τ3 := by rw [e3]; exact fr_up f3 (by simp [rgF])
                have u3 : uOk τ3 (8 * σ 0 18 + k) := by
                  rw [e3]; unfold uOk; simp [up_if]; rw [m6, l6]; have := u1; unfold uOk at this; omega
                have o3 : ∀ j, j ≠ 8 * σ 0 18 + k → τ3 6 j = σ 6 j ∧ τ3 7 j = σ 7 j := fun j hj => by
                  rw [e3]; simp [up_if, hj]; rw [m6, m7, l6, l7]; exact o1 j hj
                have t39 : τ3 0 9 = τ2 0 9 := by rw [e3]; simp [up_if]
                have t313 : τ3 0 13 = τ2 0 13 := by rw [e3]; simp [up_if]
                rw [← e3]
                refine ok_aload_n 77 rfl rfl rfl (ok_callVV (M' := M_Mo_next) (as := []) 78 rfl rfl ml_X12_173 (s_Mo_next p3.P0) rfl rfl (Nat.le_of_ble_eq_true rfl) ⟨Nat.le_of_ble_eq_true rfl, Nat.le_of_ble_eq_true rfl⟩ rfl (Nat.le_of_ble_eq_true rfl) (fun τ4 hl4 => ?_))
                have p4 := Pz.of p3.P0 hl4
                have n9 := hl4.1 0 9 (by omega)
                have n12 := hl4.2.1
                have k22 := p2.2.1
                refine ok_iconst 79 rfl rfl (by decide) (ok_zret 80 rfl rfl rfl (by first | omega | (simp [up_if]; omega) | (simp [up_if] at *; omega)) ?_)
                refine ⟨_, rfl, f4.tr (hl4.1.mono (fun c k q => by simp only [rgF]; omega)), p4, Or.inr ⟨rfl, by omega, by omega, by omega, hw, ?_, fun j hj => ?_⟩⟩
                · unfold uOk; rw [hl4.1 7 _ (by omega), hl4.1 6 _ (by omega)]; exact u3
                · rw [hl4.1 7 _ (by omega), hl4.1 6 _ (by omega)]; exact o3 j hj
              · refine ok_aload_n 67 rfl rfl rfl (ok_iconst 68 rfl rfl (by decide) (ok_callVI (M' := M_Mo_fails) (as := [_]) 69 rfl rfl ml_X12_164 (s_Mo_fails (by decide)) rfl rfl (Nat.le_of_ble_eq_true rfl) ⟨Nat.le_of_ble_eq_true rfl, Nat.le_of_ble_eq_true rfl⟩ rfl (Nat.le_of_ble_eq_true rfl) (fun σ' z hz => ?_)))
                have hq := hfail τ2 σ' z f3 p2 hz
                refine ok_zret 70 rfl rfl rfl (by have := hz.1; omega) ?_
                exact ⟨_, rfl, hq⟩
            · refine ok_aload_n 60 rfl rfl rfl (ok_iconst 61 rfl rfl (by decide) (ok_callVI (M' := M_Mo_fails) (as := [_]) 62 rfl rfl ml_X12_164 (s_Mo_fails (by decide)) rfl rfl (Nat.le_of_ble_eq_true rfl) ⟨Nat.le_of_ble_eq_true rfl, Nat.le_of_ble_eq_true rfl⟩ rfl (Nat.le_of_ble_eq_true rfl) (fun σ' z hz => ?_)))
              have hq := hfail τ2 σ' z f3 p2 hz
              refine ok_zret 63 rfl rfl rfl (by have := hz.1; omega) ?_
              exact ⟨_, rfl, hq⟩
          · refine ok_iconst 53 rfl rfl (by decide) (ok_zret 54 rfl rfl rfl (by first | omega | (simp [up_if]; omega) | (simp [up_if] at *; omega)) ?_)
            refine ⟨_, rfl, f2, p1, Or.inr ⟨rfl, by omega, by omega, by omega, hw, ?_, fun j hj => ?_⟩⟩
            · unfold uOk; rw [l7, l6]; exact u1
            · rw [l7, l6]; exact o1 j hj
      · refine ok_iload_n 17 rfl rfl rfl (ok_aload_n 18 rfl rfl rfl (ok_getI 19 rfl rfl fl_X12_170 rfl rfl (Or.inl rfl) (ok_icmp_ne 20 46 rfl rfl rfl (fun h37 => ?_) (fun h37 => ?_))))
        · have hn : numB σ := by
            rcases hz with q | q
            · exact q.2
            · omega
          have hw : 0 < σ 0 18 → k ≠ σ 0 19 := by omega
          clear z hz h4 
          refine ok_bipush 25 rfl rfl (by decide) (by decide) (ok_aload_n 26 rfl rfl rfl (ok_getI 27 rfl rfl fl_X12_167 rfl rfl (Or.inl rfl) (ok_imul 28 rfl rfl (by first | omega | (have q1 := f2 0 18; have q2 := f2 0 19; omega)) (ok_iload_n 29 rfl rfl rfl (ok_iadd 30 rfl rfl (by first | omega | (have q1 := f2 0 18; have q2 := f2 0 19; omega)) (ok_ist2 31 rfl rfl rfl (ok_aload_n 32 rfl rfl rfl (ok_getR 33 rfl rfl fl_X12_30 rfl rfl (ok_iload_n 34 rfl rfl rfl (ok_aload_n 35 rfl rfl rfl (ok_getI 36 rfl rfl fl_X12_141 rfl rfl (Or.inl rfl) (ok_iast 37 rfl rfl rfl (by first | omega | (have q1 := f2 0 18; have q2 := f2 0 19; omega)) (ok_aload_n 38 rfl rfl rfl (ok_getR 39 rfl rfl fl_X12_33 rfl rfl (ok_iload_n 40 rfl rfl rfl (ok_iconst 41 rfl rfl (by decide) (ok_iast 42 rfl rfl rfl (by first | omega | (have q1 := f2 0 18; have q2 := f2 0 19; omega)) ?_)))))))))))))))))
          obtain ⟨τ, e1⟩ : ∃ x, x = up (up σ 6 (8 * σ 0 18 + k) (σ 0 14)) 7 (8 * σ 0 18 + k) 1 := ⟨_, rfl⟩
          have f1 : fr rgF σ τ := by rw [e1]; exact fr_up (fr_up fr.rf (by simp [rgF])) (by simp [rgF])
          have pt : Pz τ := h.fr (by rw [e1]; exact fr_up (fr_up fr.rf (by omega)) (by omega))
          have u1 : uOk τ (8 * σ 0 18 + k) := by rw [e1]; unfold uOk; simp [up_if]; omega
          have o1 : ∀ j, j ≠ 8 * σ 0 18 + k → τ 6 j = σ 6 j ∧ τ 7 j = σ 7 j := fun j hj => by rw [e1]; simp [up_if, hj]
          have t12 : τ 0 12 = σ 0 12 := by rw [e1]; simp [up_if]
          have t13 : τ 0 13 = σ 0 13 := by rw [e1]; simp [up_if]
          have t9 : τ 0 9 = σ 0 9 := by rw [e1]; simp [up_if]
          clear h
          first | (simp only [up_ne _ _ _ _ (show (0 : Nat) ≠ 6 by decide)]; rw [← e1]) | rw [← e1]
          clear e1
          refine ok_aload_n 43 rfl rfl rfl (ok_callVV (M' := M_Mo_next) (as := []) 44 rfl rfl ml_X12_173 (s_Mo_next pt.P0) rfl rfl (Nat.le_of_ble_eq_true rfl) ⟨Nat.le_of_ble_eq_true rfl, Nat.le_of_ble_eq_true rfl⟩ rfl (Nat.le_of_ble_eq_true rfl) (fun τ1 hl => ?_))
          have p1 := Pz.of pt.P0 hl
          have f2 : fr rgF σ τ1 := f1.tr (hl.1.mono (fun c k q => by simp only [rgF]; omega))
          have l9 := hl.1 0 9 (by omega)
          have l12 := hl.2.1
          have l7 : ∀ j, τ1 7 j = τ 7 j := fun j => hl.1 7 j (by omega)
          have l6 : ∀ j, τ1 6 j = τ 6 j := fun j => hl.1 6 j (by omega)
          have hfrom : σ 0 12 < σ 0 13 := h6 (by have := hn.1; omega)
          refine ok_aload_n 45 rfl rfl rfl (ok_getI 46 rfl rfl fl_X12_147 rfl rfl (Or.inl rfl) (ok_iconst 47 rfl rfl (by decide) (ok_icmp_ne 48 94 rfl rfl rfl (fun h82 => ?_) (fun h82 => ?_))))
          · refine ok_iconst 53 rfl rfl (by decide) (ok_zret 54 rfl rfl rfl (by first | omega | (simp [up_if]; omega) | (simp [up_if] at *; omega)) ?_)
            refine ⟨_, rfl, f2, p1, Or.inr ⟨rfl, by omega, by omega, by omega, hw, ?_, fun j hj => ?_⟩⟩
            · unfold uOk; rw [l7, l6]; exact u1
            · rw [l7, l6]; exact o1 j hj
          · refine ok_aload_n 49 rfl rfl rfl (ok_getI 50 rfl rfl fl_X12_144 rfl rfl (Or.inl rfl) (ok_bipush 51 rfl rfl (by decide) (by decide) (ok_icmp_eq 52 96 rfl rfl rfl (fun h91 => ?_) (fun h91 => ?_))))
            · refine ok_aload_n 55 rfl rfl rfl (ok_callVV (M' := M_Mo_next) (as := []) 56 rfl rfl ml_X12_173 (s_Mo_next p1.P0) rfl rfl (Nat.le_of_ble_eq_true rfl) ⟨Nat.le_of_ble_eq_true rfl, Nat.le_of_ble_eq_true rfl⟩ rfl (Nat.le_of_ble_eq_true rfl) (fun τ2 hl2 => ?_))
              have p2 := Pz.of p1.P0 hl2
              have f3 : fr rgF σ τ2 := f2.tr (hl2.1.mono (fun c k q => by simp only [rgF]; omega))
              have m9 := hl2.1 0 9 (by omega)
              have m7 : ∀ j, τ2 7 j = τ1 7 j := fun j => hl2.1 7 j (by omega)
              have m6 : ∀ j, τ2 6 j = τ1 6 j := fun j => hl2.1 6 j (by omega)
              have m12 := hl2.2.1
              have k12 := p1.2.1
              have q14 : 0 ≤ τ2 0 14 ∧ τ2 0 14 ≤ 999999 := hl2.2.2.2.2.2.2
              refine ok_aload_n 57 rfl rfl rfl (ok_callVI (M' := M_Mo_isNumber) (as := []) 58 rfl rfl ml_X12_160 (s_Mo_isNumber p2) rfl rfl (Nat.le_of_ble_eq_true rfl) ⟨Nat.le_of_ble_eq_true rfl, Nat.le_of_ble_eq_true rfl⟩ rfl (Nat.le_of_ble_eq_true rfl) (fun σ' z hz => ?_))
              obtain ⟨hs_, hz⟩ := hz
              rw [hs_]; clear hs_ σ'
              refine ok_if_ne 59 113 rfl rfl rfl (fun h104 => ?_) (fun h104 => ?_)
              · refine ok_aload_n 64 rfl rfl rfl (ok_getI 65 rfl rfl fl_X12_141 rfl rfl (Or.inl rfl) (ok_if_ne 66 126 rfl rfl rfl (fun h117 => ?_) (fun h117 => ?_)))
                · refine ok_aload_n 71 rfl rfl rfl (ok_getR 72 rfl rfl fl_X12_33 rfl rfl (ok_iload_n 73 rfl rfl rfl (ok_aload_n 74 rfl rfl rfl (ok_getI 75 rfl rfl fl_X12_141 rfl rfl (Or.inl rfl) (ok_iast 76 rfl rfl rfl (by first | omega | (have q1 := f2 0 18; have q2 := f2 0 19; omega)) ?_)))))
                  obtain ⟨τ3, e3⟩ : ∃ x, x = up τ2 7 (8 * σ 0 18 + k) (τ2 0 14) := ⟨_, rfl⟩
                  have p3 : Pz τ3 := p2.fr (by rw [e3]; exact fr_up fr.rf (by omega))
                  have f4 : fr rgF σ τ3 := by rw [e3]; exact fr_up f3 (by simp [rgF])
                  have u3 : uOk τ3 (8 * σ 0 18 + k) := by
                    rw [e3]; unfold uOk; simp [up_if]; rw [m6, l6]; have := u1; unfold uOk at this; omega
                  have o3 : ∀ j, j ≠ 8 * σ 0 18 + k → τ3 6 j = σ 6 j ∧ τ3 7 j = σ 7 j := fun j hj => by
                    rw [e3]; simp [up_if, hj]; rw [m6, m7, l6, l7]; exact o1 j hj
                  have t39 : τ3 0 9 = τ2 0 9 := by rw [e3]; simp [up_if]
                  have t313 : τ3 0 13 = τ2 0 13 := by rw [e3]; simp [up_if]
                  rw [← e3]
                  refine ok_aload_n 77 rfl rfl rfl (ok_callVV (M' := M_Mo_next) (as := []) 78 rfl rfl ml_X12_173 (s_Mo_next p3.P0) rfl rfl (Nat.le_of_ble_eq_true rfl) ⟨Nat.le_of_ble_eq_true rfl, Nat.le_of_ble_eq_true rfl⟩ rfl (Nat.le_of_ble_eq_true rfl) (fun τ4 hl4 => ?_))
                  have p4 := Pz.of p3.P0 hl4
                  have n9 := hl4.1 0 9 (by omega)
                  have n12 := hl4.2.1
                  have k22 := p2.2.1
                  refine ok_iconst 79 rfl rfl (by decide) (ok_zret 80 rfl rfl rfl (by first | omega | (simp [up_if]; omega) | (simp [up_if] at *; omega)) ?_)
                  refine ⟨_, rfl, f4.tr (hl4.1.mono (fun c k q => by simp only [rgF]; omega)), p4, Or.inr ⟨rfl, by omega, by omega, by omega, hw, ?_, fun j hj => ?_⟩⟩
                  · unfold uOk; rw [hl4.1 7 _ (by omega), hl4.1 6 _ (by omega)]; exact u3
                  · rw [hl4.1 7 _ (by omega), hl4.1 6 _ (by omega)]; exact o3 j hj
                · refine ok_aload_n 67 rfl rfl rfl (ok_iconst 68 rfl rfl (by decide) (ok_callVI (M' := M_Mo_fails) (as := [_]) 69 rfl rfl ml_X12_164 (s_Mo_fails (by decide)) rfl rfl (Nat.le_of_ble_eq_true rfl) ⟨Nat.le_of_ble_eq_true rfl, Nat.le_of_ble_eq_true rfl⟩ rfl (Nat.le_of_ble_eq_true rfl) (fun σ' z hz => ?_)))
                  have hq := hfail τ2 σ' z f3 p2 hz
                  refine ok_zret 70 rfl rfl rfl (by have := hz.1; omega) ?_
                  exact ⟨_, rfl, hq⟩
              · refine ok_aload_n 60 rfl rfl rfl (ok_iconst 61 rfl rfl (by decide) (ok_callVI (M' := M_Mo_fails) (as := [_]) 62 rfl rfl ml_X12_164 (s_Mo_fails (by decide)) rfl rfl (Nat.le_of_ble_eq_true rfl) ⟨Nat.le_of_ble_eq_true rfl, Nat.le_of_ble_eq_true rfl⟩ rfl (Nat.le_of_ble_eq_true rfl) (fun σ' z hz => ?_)))
                have hq := hfail τ2 σ' z f3 p2 hz
                refine ok_zret 63 rfl rfl rfl (by have := hz.1; omega) ?_
                exact ⟨_, rfl, hq⟩
            · refine ok_iconst 53 rfl rfl (by decide) (ok_zret 54 rfl rfl rfl (by first | omega | (simp [up_if]; omega) | (simp [up_if] at *; omega)) ?_)
              refine ⟨_, rfl, f2, p1, Or.inr ⟨rfl, by omega, by omega, by omega, hw, ?_, fun j hj => ?_⟩⟩
              · unfold uOk; rw [l7, l6]; exact u1
              · rw [l7, l6]; exact o1 j hj
        · refine ok_aload_n 21 rfl rfl rfl (ok_iconst 22 rfl rfl (by decide) (ok_callVI (M' := M_Mo_fails) (as := [_]) 23 rfl rfl ml_X12_164 (s_Mo_fails (by decide)) rfl rfl (Nat.le_of_ble_eq_true rfl) ⟨Nat.le_of_ble_eq_true rfl, Nat.le_of_ble_eq_true rfl⟩ rfl (Nat.le_of_ble_eq_true rfl) (fun σ' z hz => ?_)))
          have hq := hfail σ σ' z fr.rf h hz
          refine ok_zret 24 rfl rfl rfl (by have := hz.1; omega) ?_
          exact ⟨_, rfl, hq⟩
    · refine ok_aload_n 10 rfl rfl rfl (ok_iconst 11 rfl rfl (by decide) (ok_callVI (M' := M_Mo_fails) (as := [_]) 12 rfl rfl ml_X12_164 (s_Mo_fails (by decide)) rfl rfl (Nat.le_of_ble_eq_true rfl) ⟨Nat.le_of_ble_eq_true rfl, Nat.le_of_ble_eq_true rfl⟩ rfl (Nat.le_of_ble_eq_true rfl) (fun σ' z hz => ?_)))
      have hq := hfail σ σ' z fr.rf h hz
      refine ok_zret 13 rfl rfl rfl (by have := hz.1; omega) ?_
      exact ⟨_, rfl, hq⟩
  · refine ok_aload_n 3 rfl rfl rfl (ok_iconst 4 rfl rfl (by decide) (ok_callVI (M' := M_Mo_fails) (as := [_]) 5 rfl rfl ml_X12_164 (s_Mo_fails (by decide)) rfl rfl (Nat.le_of_ble_eq_true rfl) ⟨Nat.le_of_ble_eq_true rfl, Nat.le_of_ble_eq_true rfl⟩ rfl (Nat.le_of_ble_eq_true rfl) (fun σ' z hz => ?_)))
    have hq := hfail σ σ' z fr.rf h hz
    refine ok_zret 6 rfl rfl rfl (by have := hz.1; omega) ?_
    exact ⟨_, rfl, hq⟩
end
section
abbrev rgR : Nat → Int → Prop := fun c k => (c = 0 ∧ 9 ≤ k ∧ k ≤ 19) ∨ c = 6 ∨ c = 7
/-- the rows read so far -/
def uRows (σ : eS) (r w : Int) : Prop := ∀ i j, 0 ≤ i → i < r → 0 ≤ j → j < w → uOk σ (8 * i + j)
def RR (σ : eS) : Prop := 0 ≤ σ 0 18 ∧ σ 0 18 ≤ 8 ∧ 0 ≤ σ 0 19 ∧ σ 0 19 ≤ 8 ∧ uRows σ (σ 0 18) (σ 0 19)
def QrR (σ : eS) (σ' : eS) (z : Int) : Prop := fr rgR σ σ' ∧ Pz σ' ∧ ((z = 0 ∧ σ' 0 9 ≠ 0) ∨ (z = 1 ∧ σ 0 12 < σ' 0 12 ∧ RR σ' ∧ σ' 0 9 = σ 0 9))
theorem s_Mo_readRow {σ : eS} (h : Pz σ) (hr : RR σ) : MtI shB M_Mo_readRow [vr 0] σ (QrR σ) := by
  refine Mt.of okM_Mo_readRow (Nat.le_of_ble_eq_true rfl) (fun hk hg => ?_)
  have hfail : ∀ (τ σ' : eS) (z : Int), fr rgR σ τ → Pz τ → z = 0 ∧ fr (fun c k => c = 0 ∧ (k = 9 ∨ k = 10)) τ σ' ∧ σ' 0 9 ≠ 0 → QrR σ σ' z := fun τ σ' z f0 p0 hz =>
    ⟨f0.tr (hz.2.1.mono (fun c k q => by simp only [rgR]; omega)), p0.fr (hz.2.1.mono (fun c k q => by omega)), Or.inl ⟨hz.1, hz.2.2⟩⟩
  obtain ⟨h1, h2, h3, h4, h5, h6, h7, h8⟩ := id h
  obtain ⟨r1, r2, r3, r4, r5⟩ := id hr
  have tail : σ 0 11 ≠ 0 → ∀ b : Int, Ok shB M_Mo_readRow 40 [some (vr 0), some (vi b), none] [] σ (fun σ' v => ∃ z, v = some (vi z) ∧ QrR σ σ' z) := by
    intro hs b
    have hlt := h6 hs
    refine ok_aload_n 21 rfl rfl rfl (ok_getI 22 rfl rfl fl_X12_167 rfl rfl (Or.inl rfl) (ok_bipush 23 rfl rfl (by decide) (by decide) (ok_icmp_ne 24 55 rfl rfl rfl (fun h46 => ?_) (fun h46 => ?_))))
    · refine ok_iconst 29 rfl rfl (by decide) (ok_ist2 30 rfl rfl rfl ?_)
      refine lpO (fun q : Int × eS => [some (vr 0), some (vi b), some (vi q.1)]) (fun q => q.2) (fun q => 0 ≤ q.1 ∧ q.1 ≤ 8 ∧ fr rgF σ q.2 ∧ Pz q.2 ∧ (0 < q.1 → σ 0 12 < q.2 0 12) ∧ q.2 0 9 = σ 0 9 ∧ σ 0 12 ≤ q.2 0 12 ∧ (∀ j, 0 ≤ j → j < q.1 → uOk q.2 (8 * σ 0 18 + j)) ∧ (0 < σ 0 18 → q.1 ≤ σ 0 19) ∧ (∀ j, j < 8 * σ 0 18 → q.2 6 j = σ 6 j ∧ q.2 7 j = σ 7 j)) (fun q => (700 - q.2 0 12).toNat) ?_ (0, σ) ⟨by omega, by omega, fr.rf, h, fun q => by omega, rfl, Int.le_refl _, fun j a b => by omega, fun _ => by omega, fun j _ => ⟨rfl, rfl⟩⟩
      rintro ⟨n, τ⟩ ⟨i1, i2, i3, i4, i5, i6, i7, i8, i9, i10⟩ ih
      dsimp only at i1 i2 i3 i4 i5 i6 i7 i8 i9 i10 ih ⊢
      have e18 : τ 0 18 = σ 0 18 := i3 0 18 (by simp only [rgF]; omega)
      have e19 : τ 0 19 = σ 0 19 := i3 0 19 (by simp only [rgF]; omega)
      have e6 : τ 0 6 = σ 0 6 := i3 0 6 (by simp only [rgF]; omega)
      have f1 : fr rgR σ τ := i3.mono (fun c k q => by simp only [rgF] at q; simp only [rgR]; omega)
      refine ok_aload_n 31 rfl rfl rfl (ok_getI 32 rfl rfl fl_X12_147 rfl rfl (Or.inl rfl) (ok_iconst 33 rfl rfl (by decide) (ok_icmp_ne 34 74 rfl rfl rfl (fun h62 => ?_) (fun h62 => ?_))))
      · refine ok_aload_n 39 rfl rfl rfl (ok_iload_n 40 rfl rfl rfl (ok_callVI (M' := M_Mo_readFraction) (as := [_]) 41 rfl rfl ml_X12_176 (s_Mo_readFraction i4 ⟨i1, i2⟩ ⟨by omega, by omega⟩) rfl rfl (Nat.le_of_ble_eq_true rfl) ⟨Nat.le_of_ble_eq_true rfl, Nat.le_of_ble_eq_true rfl⟩ rfl (Nat.le_of_ble_eq_true rfl) (fun τ1 z hz => ?_)))
        obtain ⟨z1, z2, z3⟩ := hz
        have p12 := i4.1
        have p24 := z2.2.1
        have p25 := z2.2.2.1
        have g6 : τ1 0 6 = τ 0 6 := z1 0 6 (by simp only [rgF]; omega)
        refine ok_if_ne 42 84 rfl rfl rfl (fun h79 => ?_) (fun h79 => ?_)
        · refine ok_inc2 45 rfl rfl rfl (by first | omega | (simp [up_if]; omega) | (simp [up_if] at *; omega)) (ok_goto 46 57 rfl rfl rfl ?_)
          rcases z3 with ⟨q, -⟩ | ⟨-, y1, y2, y3, y4, y5, y6⟩
          · omega
          rw [e18] at y4 y5 y6
          rw [e19] at y4
          refine ih (n + 1, τ1) ⟨by dsimp only; omega, by dsimp only; omega, i3.tr z1, z2, fun _ => by dsimp only; omega, by dsimp only; omega, by dsimp only; omega, lt_ext (fun j a c => ?_) y5, fun q => by have := i9 q; have := y4 q; dsimp only; omega, fun j hj => ?_⟩ (by dsimp only; omega)
          · have := y6 (8 * σ 0 18 + j) (by omega)
            unfold uOk
            dsimp only
            rw [this.1, this.2]
            exact i8 j a c
          · have := y6 j (by omega)
            dsimp only
            rw [this.1, this.2]
            exact i10 j hj
        · refine ok_iconst 43 rfl rfl (by decide) (ok_zret 44 rfl rfl rfl (by first | omega | (simp [up_if]; omega) | (simp [up_if] at *; omega)) ?_)
          refine ⟨_, rfl, f1.tr (z1.mono (fun c k q => by simp only [rgF] at q; simp only [rgR]; omega)), z2, Or.inl ⟨rfl, ?_⟩⟩
          omega
      · refine ok_aload_n 35 rfl rfl rfl (ok_getI 36 rfl rfl fl_X12_144 rfl rfl (Or.inl rfl) (ok_bipush 37 rfl rfl (by decide) (by decide) (ok_icmp_eq 38 90 rfl rfl rfl (fun h71 => ?_) (fun h71 => ?_))))
        · refine ok_aload_n 47 rfl rfl rfl (ok_getI 48 rfl rfl fl_X12_167 rfl rfl (Or.inl rfl) (ok_if_ne 49 105 rfl rfl rfl (fun h94 => ?_) (fun h94 => ?_)))
          · refine ok_iload_n 54 rfl rfl rfl (ok_aload_n 55 rfl rfl rfl (ok_getI 56 rfl rfl fl_X12_170 rfl rfl (Or.inl rfl) (ok_icmp_eq 57 119 rfl rfl rfl (fun h110 => ?_) (fun h110 => ?_))))
            · obtain ⟨ρ, er⟩ : ∃ x : eS, x = (if σ 0 18 = 0 then up τ 0 19 n else τ) := ⟨_, rfl⟩
              have fρ : fr rgR σ ρ := by
                rw [er]; split
                · exact fr_up f1 (by simp [rgR])
                · exact f1
              have pρ : Pz ρ := by
                rw [er]; split
                · exact i4.fr (fr_up fr.rf (by omega))
                · exact i4
              have w19 : ρ 0 19 = n := by
                rw [er]; split
                · simp [up_if]
                · omega
              have w18 : ρ 0 18 = σ 0 18 := by
                rw [er]; split
                · simp [up_if]; exact e18
                · exact e18
              have w9 : ρ 0 9 = σ 0 9 := by
                rw [er]; split
                · simp [up_if]; exact i6
                · exact i6
              have w12 : ρ 0 12 = τ 0 12 := by
                rw [er]; split
                · simp [up_if]
                · rfl
              have w13 : ρ 0 13 = τ 0 13 := by
                rw [er]; split
                · simp [up_if]
                · rfl
              have w67 : ∀ j, ρ 6 j = τ 6 j ∧ ρ 7 j = τ 7 j := fun j => by
                rw [er]; split
                · simp [up_if]
                · exact ⟨rfl, rfl⟩
              have uu : uRows ρ (σ 0 18 + 1) n := by
                intro i j a1 a2 a3 a4
                unfold uOk
                rw [(w67 _).1, (w67 _).2]
                by_cases q : i = σ 0 18
                · rw [q]; exact i8 j a3 a4
                · have := i10 (8 * i + j) (by omega)
                  rw [this.1, this.2]
                  exact r5 i j a1 (by omega) a3 (by have := i9 (by omega); omega)
              have t12 := i4.1
              have t13 : τ 0 12 < τ 0 13 := i4.2.2.2.2.2.1 (by omega)
              first | (have er' : up τ 0 19 n = ρ := by rw [er, if_pos (by omega)]
                       rw [er']) | (have er' : τ = ρ := by rw [er, if_neg (by omega)]
                                    rw [er'])
              clear er er'
              refine ok_aload_n 62 rfl rfl rfl (ok_callVV (M' := M_Mo_next) (as := []) 63 rfl rfl ml_X12_173 (s_Mo_next pρ.P0) rfl rfl (Nat.le_of_ble_eq_true rfl) ⟨Nat.le_of_ble_eq_true rfl, Nat.le_of_ble_eq_true rfl⟩ rfl (Nat.le_of_ble_eq_true rfl) (fun τ1 hl => ?_))
              have p1 := Pz.of pρ.P0 hl
              have l18 := hl.1 0 18 (by omega)
              have l19 := hl.1 0 19 (by omega)
              have l9 := hl.1 0 9 (by omega)
              have l12 := hl.2.1
              refine ok_aload_n 64 rfl rfl rfl (ok_dup 65 rfl rfl rfl (ok_getI 66 rfl rfl fl_X12_167 rfl rfl (Or.inl rfl) (ok_iconst 67 rfl rfl (by decide) (ok_iadd 68 rfl rfl (by first | omega | (simp [up_if]; omega) | (simp [up_if] at *; omega)) (ok_putI 69 rfl rfl fl_X12_167 rfl rfl rfl rfl (ok_iconst 70 rfl rfl (by decide) (ok_zret 71 rfl rfl rfl (by first | omega | (simp [up_if]; omega) | (simp [up_if] at *; omega)) ?_)))))))
              refine ⟨_, rfl, fr_up (fρ.tr (hl.1.mono (fun c k q => by simp only [rgR]; omega))) (by simp [rgR]), p1.fr (fr_up fr.rf (by omega)), Or.inr ⟨rfl, by simp [up_if]; omega, ?_, by simp [up_if]; omega⟩⟩
              refine ⟨by simp [up_if]; omega, by simp [up_if]; omega, by simp [up_if]; omega, by simp [up_if]; omega, ?_⟩
              intro i j a1 a2 a3 a4
              simp [up_if] at a2 a4
              unfold uOk
              rw [up_ne _ _ _ _ (by decide), up_ne _ _ _ _ (by decide), hl.1 7 _ (by omega), hl.1 6 _ (by omega)]
              exact uu i j a1 (by omega) a3 (by omega)
            · refine ok_aload_n 58 rfl rfl rfl (ok_iconst 59 rfl rfl (by decide) (ok_callVI (M' := M_Mo_fails) (as := [_]) 60 rfl rfl ml_X12_164 (s_Mo_fails (by decide)) rfl rfl (Nat.le_of_ble_eq_true rfl) ⟨Nat.le_of_ble_eq_true rfl, Nat.le_of_ble_eq_true rfl⟩ rfl (Nat.le_of_ble_eq_true rfl) (fun σ' z hz => ?_)))
              have hq := hfail τ σ' z f1 i4 hz
              refine ok_zret 61 rfl rfl rfl (by have := hz.1; omega) ?_
              exact ⟨_, rfl, hq⟩
          · refine ok_aload_n 50 rfl rfl rfl (ok_iload_n 51 rfl rfl rfl (ok_putI 52 rfl rfl fl_X12_170 rfl rfl rfl rfl (ok_goto 53 119 rfl rfl rfl ?_)))
            obtain ⟨ρ, er⟩ : ∃ x : eS, x = (if σ 0 18 = 0 then up τ 0 19 n else τ) := ⟨_, rfl⟩
            have fρ : fr rgR σ ρ := by
              rw [er]; split
              · exact fr_up f1 (by simp [rgR])
              · exact f1
            have pρ : Pz ρ := by
              rw [er]; split
              · exact i4.fr (fr_up fr.rf (by omega))
              · exact i4
            have w19 : ρ 0 19 = n := by
              rw [er]; split
              · simp [up_if]
              · omega
            have w18 : ρ 0 18 = σ 0 18 := by
              rw [er]; split
              · simp [up_if]; exact e18
              · exact e18
            have w9 : ρ 0 9 = σ 0 9 := by
              rw [er]; split
              · simp [up_if]; exact i6
              · exact i6
            have w12 : ρ 0 12 = τ 0 12 := by
              rw [er]; split
              · simp [up_if]
              · rfl
            have w13 : ρ 0 13 = τ 0 13 := by
              rw [er]; split
              · simp [up_if]
              · rfl
            have w67 : ∀ j, ρ 6 j = τ 6 j ∧ ρ 7 j = τ 7 j := fun j => by
              rw [er]; split
              · simp [up_if]
              · exact ⟨rfl, rfl⟩
            have uu : uRows ρ (σ 0 18 + 1) n := by
              intro i j a1 a2 a3 a4
              unfold uOk
              rw [(w67 _).1, (w67 _).2]
              by_cases q : i = σ 0 18
              · rw [q]; exact i8 j a3 a4
              · have := i10 (8 * i + j) (by omega)
                rw [this.1, this.2]
                exact r5 i j a1 (by omega) a3 (by have := i9 (by omega); omega)
            have t12 := i4.1
            have t13 : τ 0 12 < τ 0 13 := i4.2.2.2.2.2.1 (by omega)
            first | (have er' : up τ 0 19 n = ρ := by rw [er, if_pos (by omega)]
                     rw [er']) | (have er' : τ = ρ := by rw [er, if_neg (by omega)]
                                  rw [er'])
            clear er er'
            refine ok_aload_n 62 rfl rfl rfl (ok_callVV (M' := M_Mo_next) (as := []) 63 rfl rfl ml_X12_173 (s_Mo_next pρ.P0) rfl rfl (Nat.le_of_ble_eq_true rfl) ⟨Nat.le_of_ble_eq_true rfl, Nat.le_of_ble_eq_true rfl⟩ rfl (Nat.le_of_ble_eq_true rfl) (fun τ1 hl => ?_))
            have p1 := Pz.of pρ.P0 hl
            have l18 := hl.1 0 18 (by omega)
            have l19 := hl.1 0 19 (by omega)
            have l9 := hl.1 0 9 (by omega)
            have l12 := hl.2.1
            refine ok_aload_n 64 rfl rfl rfl (ok_dup 65 rfl rfl rfl (ok_getI 66 rfl rfl fl_X12_167 rfl rfl (Or.inl rfl) (ok_iconst 67 rfl rfl (by decide) (ok_iadd 68 rfl rfl (by first | omega | (simp [up_if]; omega) | (simp [up_if] at *; omega)) (ok_putI 69 rfl rfl fl_X12_167 rfl rfl rfl rfl (ok_iconst 70 rfl rfl (by decide) (ok_zret 71 rfl rfl rfl (by first | omega | (simp [up_if]; omega) | (simp [up_if] at *; omega)) ?_)))))))
            refine ⟨_, rfl, fr_up (fρ.tr (hl.1.mono (fun c k q => by simp only [rgR]; omega))) (by simp [rgR]), p1.fr (fr_up fr.rf (by omega)), Or.inr ⟨rfl, by simp [up_if]; omega, ?_, by simp [up_if]; omega⟩⟩
            refine ⟨by simp [up_if]; omega, by simp [up_if]; omega, by simp [up_if]; omega, by simp [up_if]; omega, ?_⟩
            intro i j a1 a2 a3 a4
            simp [up_if] at a2 a4
            unfold uOk
            rw [up_ne _ _ _ _ (by decide), up_ne _ _ _ _ (by decide), hl.1 7 _ (by omega), hl.1 6 _ (by omega)]
            exact uu i j a1 (by omega) a3 (by omega)
        · refine ok_aload_n 39 rfl rfl rfl (ok_iload_n 40 rfl rfl rfl (ok_callVI (M' := M_Mo_readFraction) (as := [_]) 41 rfl rfl ml_X12_176 (s_Mo_readFraction i4 ⟨i1, i2⟩ ⟨by omega, by omega⟩) rfl rfl (Nat.le_of_ble_eq_true rfl) ⟨Nat.le_of_ble_eq_true rfl, Nat.le_of_ble_eq_true rfl⟩ rfl (Nat.le_of_ble_eq_true rfl) (fun τ1 z hz => ?_)))
          obtain ⟨z1, z2, z3⟩ := hz
          have p12 := i4.1
          have p24 := z2.2.1
          have p25 := z2.2.2.1
          have g6 : τ1 0 6 = τ 0 6 := z1 0 6 (by simp only [rgF]; omega)
          refine ok_if_ne 42 84 rfl rfl rfl (fun h79 => ?_) (fun h79 => ?_)
          · refine ok_inc2 45 rfl rfl rfl (by first | omega | (simp [up_if]; omega) | (simp [up_if] at *; omega)) (ok_goto 46 57 rfl rfl rfl ?_)
            rcases z3 with ⟨q, -⟩ | ⟨-, y1, y2, y3, y4, y5, y6⟩
            · omega
            rw [e18] at y4 y5 y6
            rw [e19] at y4
            refine ih (n + 1, τ1) ⟨by dsimp only; omega, by dsimp only; omega, i3.tr z1, z2, fun _ => by dsimp only; omega, by dsimp only; omega, by dsimp only; omega, lt_ext (fun j a c => ?_) y5, fun q => by have := i9 q; have := y4 q; dsimp only; omega, fun j hj => ?_⟩ (by dsimp only; omega)
            · have := y6 (8 * σ 0 18 + j) (by omega)
              unfold uOk
              dsimp only
              rw [this.1, this.2]
              exact i8 j a c
            · have := y6 j (by omega)
              dsimp only
              rw [this.1, this.2]
              exact i10 j hj
          · refine ok_iconst 43 rfl rfl (by decide) (ok_zret 44 rfl rfl rfl (by first | omega | (simp [up_if]; omega) | (simp [up_if] at *; omega)) ?_)
            refine ⟨_, rfl, f1.tr (z1.mono (fun c k q => by simp only [rgF] at q; simp only [rgR]; omega)), z2, Or.inl ⟨rfl, ?_⟩⟩
            omega
    · refine ok_aload_n 25 rfl rfl rfl (ok_iconst 26 rfl rfl (by decide) (ok_callVI (M' := M_Mo_fails) (as := [_]) 27 rfl rfl ml_X12_164 (s_Mo_fails (by decide)) rfl rfl (Nat.le_of_ble_eq_true rfl) ⟨Nat.le_of_ble_eq_true rfl, Nat.le_of_ble_eq_true rfl⟩ rfl (Nat.le_of_ble_eq_true rfl) (fun σ' z hz => ?_)))
      have hq := hfail σ σ' z fr.rf h hz
      refine ok_zret 28 rfl rfl rfl (by have := hz.1; omega) ?_
      exact ⟨_, rfl, hq⟩
  refine ok_aload_n 0 rfl rfl rfl (ok_callVI (M' := M_Mo_isNumber) (as := []) 1 rfl rfl ml_X12_160 (s_Mo_isNumber h) rfl rfl (Nat.le_of_ble_eq_true rfl) ⟨Nat.le_of_ble_eq_true rfl, Nat.le_of_ble_eq_true rfl⟩ rfl (Nat.le_of_ble_eq_true rfl) (fun σ' z hz => ?_))
  obtain ⟨hs_, hz⟩ := hz
  rw [hs_]; clear hs_ σ'
  refine ok_if_ne 2 24 rfl rfl rfl (fun h4 => ?_) (fun h4 => ?_)
  · refine ok_iconst 11 rfl rfl (by decide) (ok_goto 12 29 rfl rfl rfl (ok_ist1 14 rfl rfl rfl (ok_iload_n 15 rfl rfl rfl (ok_if_ne 16 40 rfl rfl rfl (fun h31 => ?_) (fun h31 => ?_)))))
    · refine tail ?_ _
      rcases hz with ⟨-, q⟩ | ⟨q, -⟩
      · have := q.1; omega
      · omega
    · refine ok_aload_n 17 rfl rfl rfl (ok_iconst 18 rfl rfl (by decide) (ok_callVI (M' := M_Mo_fails) (as := [_]) 19 rfl rfl ml_X12_164 (s_Mo_fails (by decide)) rfl rfl (Nat.le_of_ble_eq_true rfl) ⟨Nat.le_of_ble_eq_true rfl, Nat.le_of_ble_eq_true rfl⟩ rfl (Nat.le_of_ble_eq_true rfl) (fun σ' z hz => ?_)))
      have hq := hfail σ σ' z fr.rf h hz
      refine ok_zret 20 rfl rfl rfl (by have := hz.1; omega) ?_
      exact ⟨_, rfl, hq⟩
  · refine ok_aload_n 3 rfl rfl rfl (ok_getI 4 rfl rfl fl_X12_147 rfl rfl (Or.inl rfl) (ok_iconst 5 rfl rfl (by decide) (ok_icmp_ne 6 28 rfl rfl rfl (fun h12 => ?_) (fun h12 => ?_))))
    · refine ok_iconst 13 rfl rfl (by decide) (ok_ist1 14 rfl rfl rfl (ok_iload_n 15 rfl rfl rfl (ok_if_ne 16 40 rfl rfl rfl (fun h31 => ?_) (fun h31 => ?_))))
      · refine tail ?_ _
        rcases hz with ⟨-, q⟩ | ⟨q, -⟩
        · have := q.1; omega
        · omega
      · refine ok_aload_n 17 rfl rfl rfl (ok_iconst 18 rfl rfl (by decide) (ok_callVI (M' := M_Mo_fails) (as := [_]) 19 rfl rfl ml_X12_164 (s_Mo_fails (by decide)) rfl rfl (Nat.le_of_ble_eq_true rfl) ⟨Nat.le_of_ble_eq_true rfl, Nat.le_of_ble_eq_true rfl⟩ rfl (Nat.le_of_ble_eq_true rfl) (fun σ' z hz => ?_)))
        have hq := hfail σ σ' z fr.rf h hz
        refine ok_zret 20 rfl rfl rfl (by have := hz.1; omega) ?_
        exact ⟨_, rfl, hq⟩
    · refine ok_aload_n 7 rfl rfl rfl (ok_getI 8 rfl rfl fl_X12_144 rfl rfl (Or.inl rfl) (ok_bipush 9 rfl rfl (by decide) (by decide) (ok_icmp_ne 10 28 rfl rfl rfl (fun h21 => ?_) (fun h21 => ?_))))
      · refine ok_iconst 13 rfl rfl (by decide) (ok_ist1 14 rfl rfl rfl (ok_iload_n 15 rfl rfl rfl (ok_if_ne 16 40 rfl rfl rfl (fun h31 => ?_) (fun h31 => ?_))))
        · refine tail ?_ _
          rcases hz with ⟨-, q⟩ | ⟨q, -⟩
          · have := q.1; omega
          · omega
        · refine ok_aload_n 17 rfl rfl rfl (ok_iconst 18 rfl rfl (by decide) (ok_callVI (M' := M_Mo_fails) (as := [_]) 19 rfl rfl ml_X12_164 (s_Mo_fails (by decide)) rfl rfl (Nat.le_of_ble_eq_true rfl) ⟨Nat.le_of_ble_eq_true rfl, Nat.le_of_ble_eq_true rfl⟩ rfl (Nat.le_of_ble_eq_true rfl) (fun σ' z hz => ?_)))
          have hq := hfail σ σ' z fr.rf h hz
          refine ok_zret 20 rfl rfl rfl (by have := hz.1; omega) ?_
          exact ⟨_, rfl, hq⟩
      · refine ok_iconst 11 rfl rfl (by decide) (ok_goto 12 29 rfl rfl rfl (ok_ist1 14 rfl rfl rfl (ok_iload_n 15 rfl rfl rfl (ok_if_ne 16 40 rfl rfl rfl (fun h31 => ?_) (fun h31 => ?_)))))
        · refine tail ?_ _
          rcases hz with ⟨-, q⟩ | ⟨q, -⟩
          · have := q.1; omega
          · omega
        · refine ok_aload_n 17 rfl rfl rfl (ok_iconst 18 rfl rfl (by decide) (ok_callVI (M' := M_Mo_fails) (as := [_]) 19 rfl rfl ml_X12_164 (s_Mo_fails (by decide)) rfl rfl (Nat.le_of_ble_eq_true rfl) ⟨Nat.le_of_ble_eq_true rfl, Nat.le_of_ble_eq_true rfl⟩ rfl (Nat.le_of_ble_eq_true rfl) (fun σ' z hz => ?_)))
          have hq := hfail σ σ' z fr.rf h hz
          refine ok_zret 20 rfl rfl rfl (by have := hz.1; omega) ?_
          exact ⟨_, rfl, hq⟩
end
section
def gF (σ : eS) : Nat → Int
  | 0 => σ 0 4
  | k + 1 => (Int.gcd (gF σ k) (σ 4 k) : Int)
theorem gF_s (σ : eS) {k : Int} (h : 0 ≤ k) : gF σ (k + 1).toNat = (Int.gcd (gF σ k.toNat) (σ 4 k) : Int) := by
  have : (k + 1).toNat = k.toNat + 1 := by omega
  rw [this]
  show ((Int.gcd (gF σ k.toNat) (σ 4 ((k.toNat : Nat) : Int)) : Nat) : Int) = _
  rw [Int.toNat_of_nonneg h]
theorem gF_bd {σ : eS} (h : 1 ≤ σ 0 4) : ∀ k : Nat, 1 ≤ gF σ k ∧ gF σ k ≤ σ 0 4
  | 0 => ⟨h, Int.le_refl _⟩
  | k + 1 => by
    have h1 := gF_bd h k
    have h2 := gcd_pos (a := gF σ k) (b := σ 4 k) (by omega)
    show 1 ≤ (Int.gcd (gF σ k) (σ 4 k) : Int) ∧ _
    exact ⟨h2.1, Int.le_trans h2.2 h1.2⟩
/-- a table written into a slot: size, below, and the first j cells -/
def tw (σ : eS) (s n b g j : Int) : eS := fun c k => if c = 1 ∧ k = s then n else if c = 2 ∧ k = s then b else if c = 3 ∧ 64 * s ≤ k ∧ k < 64 * s + j then σ 4 (k - 64 * s) / g else σ c k
theorem tw_0 (σ : eS) (s n b g : Int) : up (up σ 1 s n) 2 s b = tw σ s n b g 0 := by
  funext c k
  simp only [up_if, tw]
  by_cases h1 : c = 1 ∧ k = s
  · rw [if_neg (by omega), if_pos h1, if_pos h1]
  · by_cases h2 : c = 2 ∧ k = s
    · rw [if_pos h2, if_neg h1, if_pos h2]
    · rw [if_neg h2, if_neg h1, if_neg h1, if_neg h2, if_neg (by omega)]
theorem tw_s {σ : eS} {s n b g j : Int} (h : 0 ≤ j) : up (tw σ s n b g j) 3 (64 * s + j) (σ 4 j / g) = tw σ s n b g (j + 1) := by
  funext c k
  simp only [up_if, tw]
  by_cases h1 : c = 3 ∧ k = 64 * s + j
  · rw [if_pos h1, if_neg (by omega), if_neg (by omega), if_pos ⟨h1.1, by omega, by omega⟩, h1.2]
    congr 2
    omega
  · rw [if_neg h1]
    by_cases h2 : c = 1 ∧ k = s
    · rw [if_pos h2, if_pos h2]
    · rw [if_neg h2, if_neg h2]
      by_cases h3 : c = 2 ∧ k = s
      · rw [if_pos h3, if_pos h3]
      · rw [if_neg h3, if_neg h3]
        by_cases h4 : c = 3 ∧ 64 * s ≤ k ∧ k < 64 * s + j
        · rw [if_pos h4, if_pos ⟨h4.1, by omega, by omega⟩]
        · rw [if_neg h4, if_neg (by omega)]
def fitT (σ : eS) (n : Int) : Prop := σ 0 4 / gF σ (n * n).toNat ≤ 999999 ∧ ∀ k, 0 ≤ k → k < n * n → σ 4 k / gF σ (n * n).toNat ≤ 99999999
def Qtk (σ : eS) (s n : Int) (σ' : eS) (z : Int) : Prop := (z = 0 ∧ σ' = σ ∧ ¬ fitT σ n) ∨ (z = 1 ∧ σ' = tw σ s n (if n = 0 then 0 else σ 0 4 / gF σ (n * n).toNat) (gF σ (n * n).toNat) (n * n) ∧ fitT σ n)
theorem s_Mo_takes {σ : eS} {s n : Int} (hs : 0 ≤ s ∧ s < 4) (hn : 0 ≤ n ∧ n ≤ 8) (hb : 1 ≤ σ 0 4) (hf : ∀ k, 0 ≤ k → k < n * n → 0 ≤ σ 4 k) : MtI shB M_Mo_takes [vr 0, vi s, vi n] σ (Qtk σ s n) := by
  refine Mt.of okM_Mo_takes (Nat.le_of_ble_eq_true rfl) (fun hk hg => ?_)
  obtain ⟨q1, q2⟩ := sq8 hn
  obtain ⟨G, eG⟩ : ∃ x, x = gF σ (n * n).toNat := ⟨_, rfl⟩
  obtain ⟨gp, gl⟩ := gF_bd hb (n * n).toNat
  rw [← eG] at gp gl
  have tail : ∀ b : Int, b = (if n = 0 then 0 else σ 0 4 / G) → fitT σ n → Ok shB M_Mo_takes 112 [some (vr 0), some (vi s), some (vi n), some (vl G), none, some (vi (n * n))] [] (tw σ s n b G 0) (fun σ' v => ∃ z, v = some (vi z) ∧ Qtk σ s n σ' z) := by
    intro b hbb hft
    refine ok_iconst 66 rfl rfl (by decide) (ok_ist5 67 rfl rfl rfl ?_)
    refine lpO (fun j : Int => [some (vr 0), some (vi s), some (vi n), some (vl G), none, some (vi j)]) (fun j => tw σ s n b G j) (fun j => 0 ≤ j ∧ j ≤ n * n) (fun j => (n * n - j).toNat) ?_ 0 ⟨by omega, by omega⟩
    rintro j ⟨h1, h2⟩ ih
    have e4 : ∀ k, tw σ s n b G j 4 k = σ 4 k := fun k => by simp [tw]
    refine ok_iload 68 rfl rfl rfl (ok_iload_n 69 rfl rfl rfl (ok_iload_n 70 rfl rfl rfl (ok_imul 71 rfl rfl (by first | omega | (simp [up_if]; omega) | (simp [up_if] at *; omega)) (ok_icmp_ge 72 151 rfl rfl rfl (fun h120 => ?_) (fun h120 => ?_)))))
    · refine ok_iconst 90 rfl rfl (by decide) (ok_zret 91 rfl rfl rfl (by first | omega | (simp [up_if]; omega) | (simp [up_if] at *; omega)) ?_)
      exact ⟨_, rfl, Or.inr ⟨rfl, by rw [← eG, ← hbb, show j = n * n by omega], hft⟩⟩
    · have d1 := hf j h1 h120
      have d2 := Int.ediv_nonneg d1 (by omega : 0 ≤ G)
      have d3 := hft.2 j h1 h120
      rw [← eG] at d3
      refine ok_aload_n 73 rfl rfl rfl (ok_getR 74 rfl rfl fl_X12_16 rfl rfl (ok_bipush 75 rfl rfl (by decide) (by decide) (ok_iload_n 76 rfl rfl rfl (ok_imul 77 rfl rfl (by first | omega | (simp [up_if]; omega) | (simp [up_if] at *; omega)) (ok_iload 78 rfl rfl rfl (ok_iadd 79 rfl rfl (by first | omega | (simp [up_if]; omega) | (simp [up_if] at *; omega)) (ok_aload_n 80 rfl rfl rfl (ok_getR 81 rfl rfl fl_X12_19 rfl rfl (ok_iload 82 rfl rfl rfl (ok_lald 83 rfl rfl rfl (by first | omega | (simp [up_if]; omega) | (simp [up_if] at *; omega)) (ok_lload_n 84 rfl rfl rfl (ok_ldiv 85 rfl rfl (by rw [e4]; omega) (by omega) (ok_l2i 86 rfl rfl (by rw [e4]; omega) (ok_iast 87 rfl rfl rfl (by first | omega | (simp [up_if]; omega) | (simp [up_if] at *; omega)) (ok_inc5 88 rfl rfl rfl (by first | omega | (simp [up_if]; omega) | (simp [up_if] at *; omega)) (ok_goto 89 115 rfl rfl rfl ?_))))))))))))))))
      rw [e4, tw_s h1]
      exact ih (j + 1) ⟨by omega, by omega⟩ (by omega)
  refine ok_aload_n 0 rfl rfl rfl (ok_getL 1 rfl rfl fl_X12_85 rfl rfl (ok_lst3 2 rfl rfl rfl (ok_iconst 3 rfl rfl (by decide) (ok_ist5 4 rfl rfl rfl ?_))))
  refine lpO (fun j : Int => [some (vr 0), some (vi s), some (vi n), some (vl (gF σ j.toNat)), none, some (vi j)]) (fun _ => σ) (fun j => 0 ≤ j ∧ j ≤ n * n) (fun j => (n * n - j).toNat) ?_ 0 ⟨by omega, by omega⟩
  rintro j ⟨h1, h2⟩ ih
  obtain ⟨gp', gl'⟩ := gF_bd hb j.toNat
  refine ok_iload 5 rfl rfl rfl (ok_iload_n 6 rfl rfl rfl (ok_iload_n 7 rfl rfl rfl (ok_imul 8 rfl rfl (by first | omega | (simp [up_if]; omega) | (simp [up_if] at *; omega)) (ok_icmp_ge 9 34 rfl rfl rfl (fun h13 => ?_) (fun h13 => ?_)))))
  · rw [show j = n * n by omega, ← eG]
    have b0 := Int.ediv_nonneg (by omega : 0 ≤ σ 0 4) (by omega : 0 ≤ G)
    refine ok_aload_n 19 rfl rfl rfl (ok_getL 20 rfl rfl fl_X12_85 rfl rfl (ok_lload_n 21 rfl rfl rfl (ok_ldiv 22 rfl rfl (by first | omega | (simp [up_if]; omega) | (simp [up_if] at *; omega)) (by first | omega | (simp [up_if]; omega) | (simp [up_if] at *; omega)) (ok_ldc2 23 (999999) rfl rfl kc_X12_93 (by decide) (ok_lcmp_le 24 25 49 rfl rfl rfl rfl rfl (fun h43 => ?_) (fun h43 => ?_))))))
    · refine ok_iconst 28 rfl rfl (by decide) (ok_ist5 29 rfl rfl rfl ?_)
      refine lpO (fun j : Int => [some (vr 0), some (vi s), some (vi n), some (vl G), none, some (vi j)]) (fun _ => σ) (fun j => 0 ≤ j ∧ j ≤ n * n ∧ ∀ k, 0 ≤ k → k < j → σ 4 k / G ≤ 99999999) (fun j => (n * n - j).toNat) ?_ 0 ⟨by omega, by omega, fun k a b => by omega⟩
      rintro j ⟨i1, i2, i3⟩ ih
      refine ok_iload 30 rfl rfl rfl (ok_iload_n 31 rfl rfl rfl (ok_iload_n 32 rfl rfl rfl (ok_imul 33 rfl rfl (by first | omega | (simp [up_if]; omega) | (simp [up_if] at *; omega)) (ok_icmp_ge 34 84 rfl rfl rfl (fun h57 => ?_) (fun h57 => ?_)))))
      · refine ok_aload_n 48 rfl rfl rfl (ok_getR 49 rfl rfl fl_X12_7 rfl rfl (ok_iload_n 50 rfl rfl rfl (ok_iload_n 51 rfl rfl rfl (ok_iast 52 rfl rfl rfl (by first | omega | (simp [up_if]; omega) | (simp [up_if] at *; omega)) (ok_aload_n 53 rfl rfl rfl (ok_getR 54 rfl rfl fl_X12_13 rfl rfl (ok_iload_n 55 rfl rfl rfl (ok_iload_n 56 rfl rfl rfl (ok_if_ne 57 104 rfl rfl rfl (fun h97 => ?_) (fun h97 => ?_))))))))))
        · refine ok_aload_n 60 rfl rfl rfl (ok_getL 61 rfl rfl fl_X12_85 rfl rfl (ok_lload_n 62 rfl rfl rfl (ok_ldiv 63 rfl rfl (by first | omega | (simp [up_if]; omega) | (simp [up_if] at *; omega)) (by first | omega | (simp [up_if]; omega) | (simp [up_if] at *; omega)) (ok_l2i 64 rfl rfl (by first | omega | (simp [up_if]; omega) | (simp [up_if] at *; omega)) (ok_iast 65 rfl rfl rfl (by first | omega | (simp [up_if]; omega) | (simp [up_if] at *; omega)) ?_)))))
          have hft : fitT σ n := ⟨by rw [← eG]; omega, fun k a b => by rw [← eG]; exact i3 k a (by omega)⟩
          rw [show j = n * n by omega]
          first | (rw [tw_0 σ s n 0 G]; exact tail 0 (by rw [if_pos (by omega)]) hft) | (simp only [up_ne _ _ _ _ (show (0 : Nat) ≠ 1 by decide)]; rw [tw_0 σ s n _ G]; exact tail _ (by rw [if_neg (by omega)]) hft)
        · refine ok_iconst 58 rfl rfl (by decide) (ok_goto 59 111 rfl rfl rfl (ok_iast 65 rfl rfl rfl (by first | omega | (simp [up_if]; omega) | (simp [up_if] at *; omega)) ?_))
          have hft : fitT σ n := ⟨by rw [← eG]; omega, fun k a b => by rw [← eG]; exact i3 k a (by omega)⟩
          rw [show j = n * n by omega]
          first | (rw [tw_0 σ s n 0 G]; exact tail 0 (by rw [if_pos (by omega)]) hft) | (simp only [up_ne _ _ _ _ (show (0 : Nat) ≠ 1 by decide)]; rw [tw_0 σ s n _ G]; exact tail _ (by rw [if_neg (by omega)]) hft)
      · have d1 := hf j i1 h57
        refine ok_aload_n 35 rfl rfl rfl (ok_getR 36 rfl rfl fl_X12_19 rfl rfl (ok_iload 37 rfl rfl rfl (ok_lald 38 rfl rfl rfl (by first | omega | (simp [up_if]; omega) | (simp [up_if] at *; omega)) (ok_lload_n 39 rfl rfl rfl (ok_ldiv 40 rfl rfl (by first | omega | (simp [up_if]; omega) | (simp [up_if] at *; omega)) (by first | omega | (simp [up_if]; omega) | (simp [up_if] at *; omega)) (ok_ldc2 41 (99999999) rfl rfl kc_X12_95 (by decide) (ok_lcmp_le 42 43 78 rfl rfl rfl rfl rfl (fun h72 => ?_) (fun h72 => ?_))))))))
        · refine ok_inc5 46 rfl rfl rfl (by first | omega | (simp [up_if]; omega) | (simp [up_if] at *; omega)) (ok_goto 47 52 rfl rfl rfl ?_)
          exact ih (j + 1) ⟨by omega, by omega, lt_ext i3 h72⟩ (by omega)
        · refine ok_iconst 44 rfl rfl (by decide) (ok_zret 45 rfl rfl rfl (by first | omega | (simp [up_if]; omega) | (simp [up_if] at *; omega)) ?_)
          exact ⟨_, rfl, Or.inl ⟨rfl, rfl, fun q => by have := q.2 j i1 h57; rw [← eG] at this; omega⟩⟩
    · refine ok_iconst 26 rfl rfl (by decide) (ok_zret 27 rfl rfl rfl (by first | omega | (simp [up_if]; omega) | (simp [up_if] at *; omega)) ?_)
      exact ⟨_, rfl, Or.inl ⟨rfl, rfl, fun q => by have := q.1; rw [← eG] at this; omega⟩⟩
  · refine ok_lload_n 10 rfl rfl rfl (ok_aload_n 11 rfl rfl rfl (ok_getR 12 rfl rfl fl_X12_19 rfl rfl (ok_iload 13 rfl rfl rfl (ok_lald 14 rfl rfl rfl (by first | omega | (simp [up_if]; omega) | (simp [up_if] at *; omega)) (ok_callSL (M' := M_Mo_common) (as := [_, _]) 15 rfl rfl ml_X12_89 (s_Mo_common (by omega) (hf j h1 h13)) ⟨Nat.le_of_ble_eq_true rfl, Nat.le_of_ble_eq_true rfl⟩ rfl (Nat.le_of_ble_eq_true rfl) (fun σ' z hz => ?_))))))
    rw [hz.1, hz.2]
    clear hz z σ'
    refine ok_lst3 16 rfl rfl rfl (ok_inc5 17 rfl rfl rfl (by first | omega | (simp [up_if]; omega) | (simp [up_if] at *; omega)) (ok_goto 18 8 rfl rfl rfl ?_))
    rw [← gF_s σ h1]
    exact ih (j + 1) ⟨by omega, by omega⟩ (by omega)
theorem tw_B {σ : eS} {s n b g : Int} (hB : iB1 σ) (hs : 0 ≤ s ∧ s < 4) (hn : 0 ≤ n ∧ n ≤ 8) (hb : 0 < n → 1 ≤ b ∧ b ≤ 999999) (hc : ∀ k, 0 ≤ k → k < n * n → 0 ≤ σ 4 k / g ∧ σ 4 k / g ≤ 99999999) : iB1 (tw σ s n b g (n * n)) := by
  refine ⟨fun t h1 h2 => ?_, fun k h1 h2 => ?_, fun k h1 h2 => ?_⟩
  · by_cases q : t = s
    · subst q
      simp only [tw]
      simp
      exact ⟨hn.1, hn.2, hb⟩
    · simp only [tw]
      simp [q]
      exact hB.1 t h1 h2
  · simp only [tw]
    simp
    split
    · next q => exact hc _ (by omega) (by omega)
    · exact hB.2.1 k h1 h2
  · simp only [tw]
    simp
    exact hB.2.2 k h1 h2
end
section
abbrev rgO : Nat → Int → Prop := fun c k => (c = 0 ∧ k = 4) ∨ c = 1 ∨ c = 2 ∨ c = 3 ∨ c = 4 ∨ c = 6 ∨ c = 7
def QO (σ : eS) (σ' : eS) (z : Int) : Prop := fr rgO σ σ' ∧ iB1 σ' ∧ (z = 0 ∨ z = 1)
theorem gcd_div {u g : Int} (hu : 1 ≤ u) (hg : 1 ≤ g) (h : g ≤ u) : 1 ≤ u / g ∧ u / g ≤ u := by
  have h1 : u / g ≤ u := Int.ediv_le_self g (by omega)
  have h2 : 1 ≤ u / g := (Int.le_ediv_iff_mul_le (by omega)).mpr (by omega)
  exact ⟨h2, h1⟩
theorem div_bd {u g B : Int} (hu : 0 ≤ u ∧ u ≤ B) (hg : 1 ≤ g) : 0 ≤ u / g ∧ u / g ≤ B := by
  have h1 : u / g ≤ u := Int.ediv_le_self g hu.1
  have h2 : 0 ≤ u / g := Int.ediv_nonneg hu.1 (by omega)
  exact ⟨h2, by omega⟩
theorem mul_bd {a b A B : Int} (ha : 0 ≤ a ∧ a ≤ A) (hb : 0 ≤ b ∧ b ≤ B) : 0 ≤ a * b ∧ a * b ≤ A * B :=
  ⟨Int.mul_nonneg ha.1 hb.1, Int.mul_le_mul ha.2 hb.2 hb.1 (Int.le_trans ha.1 ha.2)⟩
theorem s_Mo_isOver {σ : eS} {s : Int} (hB : iB1 σ) (hs : 0 ≤ s ∧ s < 4) (hr : 0 ≤ σ 0 18 ∧ σ 0 18 ≤ 8) (hu : uRows σ (σ 0 18) (σ 0 18)) : MtI shB M_Mo_isOver [vr 0, vi s] σ (QO σ) := by
  refine Mt.of okM_Mo_isOver (Nat.le_of_ble_eq_true rfl) (fun hk hg => ?_)
  obtain ⟨n, en⟩ : ∃ x, x = σ 0 18 := ⟨_, rfl⟩
  rw [← en] at hr hu
  have hB' : ∀ τ : eS, fr (fun c k => (c = 0 ∧ k = 4) ∨ c = 4 ∨ c = 6 ∨ c = 7) σ τ → (∀ k, 0 ≤ k → k < 64 → 0 ≤ τ 4 k) → iB1 τ := fun τ f g => ⟨fun t a b => by rw [f 1 t (by omega), f 2 t (by omega)]; exact hB.1 t a b, fun k a b => by rw [f 3 k (by omega)]; exact hB.2.1 k a b, g⟩
  refine ok_aload_n 0 rfl rfl rfl (ok_lconst (w := 1) 1 rfl rfl rfl (by decide) (ok_putL 2 rfl rfl fl_X12_85 rfl rfl rfl rfl (ok_iconst 3 rfl rfl (by decide) (ok_ist2 4 rfl rfl rfl ?_))))
  refine lpO2 (fun (i : Int) (_ : eS) => [some (vr 0), some (vi s), some (vi i), none, none, none, none]) (fun _ τ => τ) (fun i τ => 0 ≤ i ∧ i ≤ n ∧ fr (fun c k => (c = 0 ∧ k = 4) ∨ c = 6 ∨ c = 7) σ τ ∧ 1 ≤ τ 0 4 ∧ τ 0 4 ≤ 999999 ∧ uRows τ n n) (fun i _ => (n - i).toNat) ?_ 0 _ ⟨by omega, by omega, fr_up fr.rf (by omega), by rw [up_same]; omega, by rw [up_same]; omega, fun i j a b c d => by unfold uOk; rw [up_ne _ _ _ _ (by decide), up_ne _ _ _ _ (by decide)]; exact hu i j a b c d⟩
  rintro i τ ⟨i1, i2, i3, i4, i5, i6⟩ ih
  have e18 : τ 0 18 = n := by rw [i3 0 18 (by omega)]; exact en.symm
  refine ok_iload_n 5 rfl rfl rfl (ok_aload_n 6 rfl rfl rfl (ok_getI 7 rfl rfl fl_X12_167 rfl rfl (Or.inl rfl) (ok_icmp_ge 8 138 rfl rfl rfl (fun h12 => ?_) (fun h12 => ?_))))
  · refine ok_iconst 81 rfl rfl (by decide) (ok_ist2 82 rfl rfl rfl ?_)
    refine lpO2 (fun (i : Int) (_ : eS) => [some (vr 0), some (vi s), some (vi i), none, none, none, none]) (fun _ τ => τ) (fun i τ => 0 ≤ i ∧ i ≤ n ∧ fr (fun c k => (c = 0 ∧ k = 4) ∨ c = 4 ∨ c = 6 ∨ c = 7) σ τ ∧ 1 ≤ τ 0 4 ∧ τ 0 4 ≤ 999999 ∧ uRows τ n n ∧ ∀ k, 0 ≤ k → k < 64 → 0 ≤ τ 4 k) (fun i _ => (n - i).toNat) ?_ 0 τ ⟨by omega, by omega, i3.mono (fun c k q => by omega), i4, i5, i6, fun k a b => by rw [i3 4 k (by omega)]; exact hB.2.2 k a b⟩
    clear i1 i2 i3 i4 i5 i6 e18 h12 ih i τ
    rintro i τ ⟨i1, i2, i3, i4, i5, i6, i7⟩ ih
    have e18 : τ 0 18 = n := by rw [i3 0 18 (by omega)]; exact en.symm
    refine ok_iload_n 83 rfl rfl rfl (ok_aload_n 84 rfl rfl rfl (ok_getI 85 rfl rfl fl_X12_167 rfl rfl (Or.inl rfl) (ok_icmp_ge 86 213 rfl rfl rfl (fun h145 => ?_) (fun h145 => ?_))))
    · refine ok_aload_n 128 rfl rfl rfl (ok_iload_n 129 rfl rfl rfl (ok_aload_n 130 rfl rfl rfl (ok_getI 131 rfl rfl fl_X12_167 rfl rfl (Or.inl rfl) (ok_callVI (M' := M_Mo_takes) (as := [_, _]) 132 rfl rfl ml_X12_179 (s_Mo_takes hs (by omega) i4 (by rw [e18]; intro k a b; have := sq8 hr; exact i7 k a (by omega))) rfl rfl (Nat.le_of_ble_eq_true rfl) ⟨Nat.le_of_ble_eq_true rfl, Nat.le_of_ble_eq_true rfl⟩ rfl (Nat.le_of_ble_eq_true rfl) (fun σ' z hz => ?_)))))
      have f0 : fr rgO σ τ := i3.mono (fun c k q => by simp only [rgO]; omega)
      refine ok_zret 133 rfl rfl rfl (by rcases hz with q | q <;> omega) ?_
      rcases hz with ⟨hz, rfl, -⟩ | ⟨hz, rfl, hft⟩
      · exact ⟨_, rfl, f0, hB' _ i3 i7, Or.inl hz⟩
      · refine ⟨_, rfl, f0.tr (fun c k q => ?_), ?_, Or.inr hz⟩
        · simp only [rgO] at q
          simp only [tw]
          rw [if_neg (by omega), if_neg (by omega), if_neg (by omega)]
        · rw [e18] at hft ⊢
          obtain ⟨gp, gl⟩ := gF_bd i4 (n * n).toNat
          refine tw_B (hB' _ i3 i7) hs hr (fun q => ?_) (fun k a b => ?_)
          · rw [if_neg (by omega)]
            exact ⟨(gcd_div i4 gp gl).1, hft.1⟩
          · exact ⟨Int.ediv_nonneg (i7 k a (by have := sq8 hr; omega)) (by omega), hft.2 k a b⟩
    · refine ok_iconst 87 rfl rfl (by decide) (ok_ist3 88 rfl rfl rfl ?_)
      refine lpO2 (fun (j : Int) (_ : eS) => [some (vr 0), some (vi s), some (vi i), some (vi j), none, none, none]) (fun _ τ => τ) (fun j τ => 0 ≤ j ∧ j ≤ n ∧ fr (fun c k => (c = 0 ∧ k = 4) ∨ c = 4 ∨ c = 6 ∨ c = 7) σ τ ∧ 1 ≤ τ 0 4 ∧ τ 0 4 ≤ 999999 ∧ uRows τ n n ∧ ∀ k, 0 ≤ k → k < 64 → 0 ≤ τ 4 k) (fun j _ => (n - j).toNat) ?_ 0 _ ⟨by omega, by omega, i3, i4, i5, i6, i7⟩
      have hin : i < n := by omega
      clear i3 i4 i5 i6 i7 e18
      rintro j τ ⟨j1, j2, i3, i4, i5, i6, i7⟩ ih2
      have e18 : τ 0 18 = n := by rw [i3 0 18 (by omega)]; exact en.symm
      refine ok_iload_n 89 rfl rfl rfl (ok_aload_n 90 rfl rfl rfl (ok_getI 91 rfl rfl fl_X12_167 rfl rfl (Or.inl rfl) (ok_icmp_ge 92 207 rfl rfl rfl (fun h155 => ?_) (fun h155 => ?_))))
      · refine ok_inc2 126 rfl rfl rfl (by first | omega | (simp [up_if]; omega) | (simp [up_if] at *; omega)) (ok_goto 127 140 rfl rfl rfl ?_)
        refine ok_fg [some (vr 0), some (vi s), some (vi (i + 1)), none, none, none, none] ⟨rfl, rfl, rfl, trivial⟩ (ih (i + 1) τ ⟨by omega, by omega, i3, i4, i5, i6, i7⟩ (by omega))
      · have uk := i6 i j (by omega) (by omega) (by omega) (by omega)
        obtain ⟨u1, u2, u3, u4⟩ := id uk
        obtain ⟨x1, x2, x3, x4⟩ := ix8 (n := n) (i := i) (j := j) hr ⟨by omega, by omega⟩ ⟨by omega, by omega⟩
        obtain ⟨d1, d2⟩ := div_bd (u := τ 0 4) (g := τ 7 (8 * i + j)) (B := 999999) ⟨by omega, by omega⟩ u1
        obtain ⟨d7, d8⟩ := mul_bd (a := τ 6 (8 * i + j)) (b := τ 0 4 / τ 7 (8 * i + j)) (A := 999999) (B := 999999) ⟨by omega, by omega⟩ ⟨by omega, by omega⟩
        refine ok_aload_n 93 rfl rfl rfl (ok_getR 94 rfl rfl fl_X12_19 rfl rfl (ok_aload_n 95 rfl rfl rfl (ok_getI 96 rfl rfl fl_X12_167 rfl rfl (Or.inl rfl) (ok_iload_n 97 rfl rfl rfl (ok_imul 98 rfl rfl (by rw [e18]; omega) (ok_iload_n 99 rfl rfl rfl (ok_iadd 100 rfl rfl (by rw [e18]; omega) (ok_aload_n 101 rfl rfl rfl (ok_getR 102 rfl rfl fl_X12_30 rfl rfl (ok_bipush 103 rfl rfl (by decide) (by decide) (ok_iload_n 104 rfl rfl rfl (ok_imul 105 rfl rfl (by first | omega | (simp [up_if]; omega) | (simp [up_if] at *; omega)) (ok_iload_n 106 rfl rfl rfl (ok_iadd 107 rfl rfl (by first | omega | (simp [up_if]; omega) | (simp [up_if] at *; omega)) (ok_iald 108 rfl rfl rfl (by first | omega | (simp [up_if]; omega) | (simp [up_if] at *; omega)) (ok_i2l 109 rfl rfl (ok_aload_n 110 rfl rfl rfl (ok_getL 111 rfl rfl fl_X12_85 rfl rfl (ok_aload_n 112 rfl rfl rfl (ok_getR 113 rfl rfl fl_X12_33 rfl rfl (ok_bipush 114 rfl rfl (by decide) (by decide) (ok_iload_n 115 rfl rfl rfl (ok_imul 116 rfl rfl (by first | omega | (simp [up_if]; omega) | (simp [up_if] at *; omega)) (ok_iload_n 117 rfl rfl rfl (ok_iadd 118 rfl rfl (by first | omega | (simp [up_if]; omega) | (simp [up_if] at *; omega)) (ok_iald 119 rfl rfl rfl (by first | omega | (simp [up_if]; omega) | (simp [up_if] at *; omega)) (ok_i2l 120 rfl rfl (ok_ldiv 121 rfl rfl (by first | omega | (simp [up_if]; omega) | (simp [up_if] at *; omega)) (by first | omega | (simp [up_if]; omega) | (simp [up_if] at *; omega)) (ok_lmul 122 rfl rfl (by first | omega | (simp [up_if]; omega) | (simp [up_if] at *; omega)) (ok_last 123 rfl rfl rfl (by rw [e18]; omega) (ok_inc3 124 rfl rfl rfl (by first | omega | (simp [up_if]; omega) | (simp [up_if] at *; omega)) (ok_goto 125 150 rfl rfl rfl ?_))))))))))))))))))))))))))))))))
        rw [e18]
        refine ih2 (j + 1) _ ⟨by omega, by omega, fr_up i3 (by simp), by rw [up_ne _ _ _ _ (by decide)]; omega, by rw [up_ne _ _ _ _ (by decide)]; omega, fun a b a1 a2 a3 a4 => ?_, ?_⟩ (by omega)
        · unfold uOk
          rw [up_ne _ _ _ _ (by decide), up_ne _ _ _ _ (by decide)]
          exact i6 a b a1 a2 a3 a4
        · intro k a b
          rw [up_if]
          split
          · exact d7
          · exact i7 k a (by omega)
  · refine ok_iconst 9 rfl rfl (by decide) (ok_ist3 10 rfl rfl rfl ?_)
    refine lpO2 (fun (j : Int) (_ : eS) => [some (vr 0), some (vi s), some (vi i), some (vi j), none, none, none]) (fun _ τ => τ) (fun j τ => 0 ≤ j ∧ j ≤ n ∧ fr (fun c k => (c = 0 ∧ k = 4) ∨ c = 6 ∨ c = 7) σ τ ∧ 1 ≤ τ 0 4 ∧ τ 0 4 ≤ 999999 ∧ uRows τ n n) (fun j _ => (n - j).toNat) ?_ 0 _ ⟨by omega, by omega, i3, i4, i5, i6⟩
    have hin : i < n := by omega
    clear i3 i4 i5 i6 e18
    rintro j τ ⟨j1, j2, i3, i4, i5, i6⟩ ih2
    have e18 : τ 0 18 = n := by rw [i3 0 18 (by omega)]; exact en.symm
    refine ok_iload_n 11 rfl rfl rfl (ok_aload_n 12 rfl rfl rfl (ok_getI 13 rfl rfl fl_X12_167 rfl rfl (Or.inl rfl) (ok_icmp_ge 14 132 rfl rfl rfl (fun h22 => ?_) (fun h22 => ?_))))
    · refine ok_inc2 79 rfl rfl rfl (by first | omega | (simp [up_if]; omega) | (simp [up_if] at *; omega)) (ok_goto 80 7 rfl rfl rfl ?_)
      exact ok_fg [some (vr 0), some (vi s), some (vi (i + 1)), none, none, none, none] ⟨rfl, rfl, rfl, trivial⟩ (ih (i + 1) τ ⟨by omega, by omega, i3, i4, i5, i6⟩ (by omega))
    · have uk := i6 i j (by omega) (by omega) (by omega) (by omega)
      obtain ⟨u1, u2, u3, u4⟩ := id uk
      obtain ⟨g1, g2⟩ := gcd_pos (a := τ 7 (8 * i + j)) (b := τ 6 (8 * i + j)) (by omega)
      obtain ⟨d1, d2⟩ := div_bd (B := 999999) ⟨u3, u4⟩ g1
      obtain ⟨d3, d4⟩ := gcd_div u1 g1 g2
      refine ok_bipush 15 rfl rfl (by decide) (by decide) (ok_iload_n 16 rfl rfl rfl (ok_imul 17 rfl rfl (by first | omega | (simp [up_if]; omega) | (simp [up_if] at *; omega)) (ok_iload_n 18 rfl rfl rfl (ok_iadd 19 rfl rfl (by first | omega | (simp [up_if]; omega) | (simp [up_if] at *; omega)) (ok_ist4 20 rfl rfl rfl (ok_aload_n 21 rfl rfl rfl (ok_getR 22 rfl rfl fl_X12_33 rfl rfl (ok_iload 23 rfl rfl rfl (ok_iald 24 rfl rfl rfl (by first | omega | (simp [up_if]; omega) | (simp [up_if] at *; omega)) (ok_i2l 25 rfl rfl (ok_aload_n 26 rfl rfl rfl (ok_getR 27 rfl rfl fl_X12_30 rfl rfl (ok_iload 28 rfl rfl rfl (ok_iald 29 rfl rfl rfl (by first | omega | (simp [up_if]; omega) | (simp [up_if] at *; omega)) (ok_i2l 30 rfl rfl (ok_callSL (M' := M_Mo_common) (as := [_, _]) 31 rfl rfl ml_X12_89 (s_Mo_common (by omega) (by omega)) ⟨Nat.le_of_ble_eq_true rfl, Nat.le_of_ble_eq_true rfl⟩ rfl (Nat.le_of_ble_eq_true rfl) (fun σ' z hz => ?_)))))))))))))))))
      rw [hz.1, hz.2]
      clear hz z σ'
      refine ok_lst5 32 rfl rfl rfl (ok_aload_n 33 rfl rfl rfl (ok_getR 34 rfl rfl fl_X12_30 rfl rfl (ok_iload 35 rfl rfl rfl (ok_dup2 36 rfl rfl ⟨rfl, rfl⟩ (ok_iald 37 rfl rfl rfl (by first | omega | (simp [up_if]; omega) | (simp [up_if] at *; omega)) (ok_lload 38 rfl rfl rfl (ok_l2i 39 rfl rfl (by first | omega | (simp [up_if]; omega) | (simp [up_if] at *; omega)) (ok_idiv 40 rfl rfl (by omega) (by omega) (ok_iast 41 rfl rfl rfl (by first | omega | (simp [up_if]; omega) | (simp [up_if] at *; omega)) (ok_aload_n 42 rfl rfl rfl (ok_getR 43 rfl rfl fl_X12_33 rfl rfl (ok_iload 44 rfl rfl rfl (ok_dup2 45 rfl rfl ⟨rfl, rfl⟩ (ok_iald 46 rfl rfl rfl (by first | omega | (simp [up_if]; omega) | (simp [up_if] at *; omega)) (ok_lload 47 rfl rfl rfl (ok_l2i 48 rfl rfl (by first | omega | (simp [up_if]; omega) | (simp [up_if] at *; omega)) (ok_idiv 49 rfl rfl (by simp only [up_ne _ _ _ _ (show (7 : Nat) ≠ 6 by decide)]; omega) (by omega) (ok_iast 50 rfl rfl rfl (by first | omega | (simp [up_if]; omega) | (simp [up_if] at *; omega)) ?_))))))))))))))))))
      obtain ⟨ρ, er⟩ : ∃ x, x = up (up τ 6 (8 * i + j) (τ 6 (8 * i + j) / (Int.gcd (τ 7 (8 * i + j)) (τ 6 (8 * i + j)) : Int))) 7 (8 * i + j) (τ 7 (8 * i + j) / (Int.gcd (τ 7 (8 * i + j)) (τ 6 (8 * i + j)) : Int)) := ⟨_, rfl⟩
      have f1 : fr (fun c k => (c = 0 ∧ k = 4) ∨ c = 6 ∨ c = 7) σ ρ := by rw [er]; exact fr_up (fr_up i3 (by simp)) (by simp)
      have b4 : ρ 0 4 = τ 0 4 := by rw [er]; simp [up_if]
      have r18 : ρ 0 18 = n := by rw [f1 0 18 (by omega)]; exact en.symm
      have b7 : 1 ≤ ρ 7 (8 * i + j) ∧ ρ 7 (8 * i + j) ≤ 999999 := by rw [er]; simp [up_if]; omega
      have b8 : uRows ρ n n := by
        intro a b a1 a2 a3 a4
        have := i6 a b a1 a2 a3 a4
        by_cases q : 8 * a + b = 8 * i + j
        · rw [q, er]; unfold uOk; simp [up_if]; omega
        · rw [er]; unfold uOk; simp [up_if, q]; exact this
      obtain ⟨g5, g6⟩ := gcd_pos (a := ρ 0 4) (b := ρ 7 (8 * i + j)) (by omega)
      obtain ⟨d5, d6⟩ := gcd_div (by omega : 1 ≤ ρ 0 4) g5 g6
      obtain ⟨d7, d8⟩ := mul_bd (a := ρ 0 4 / (Int.gcd (ρ 0 4) (ρ 7 (8 * i + j)) : Int)) (b := ρ 7 (8 * i + j)) (A := 999999) (B := 999999) ⟨by omega, by omega⟩ ⟨by omega, by omega⟩
      have d9 := Int.mul_pos (by omega : 0 < ρ 0 4 / (Int.gcd (ρ 0 4) (ρ 7 (8 * i + j)) : Int)) (by omega : 0 < ρ 7 (8 * i + j))
      simp only [up_ne _ _ _ _ (show (7 : Nat) ≠ 6 by decide)]
      rw [← er]
      refine ok_aload_n 51 rfl rfl rfl (ok_aload_n 52 rfl rfl rfl (ok_getL 53 rfl rfl fl_X12_85 rfl rfl (ok_aload_n 54 rfl rfl rfl (ok_getL 55 rfl rfl fl_X12_85 rfl rfl (ok_aload_n 56 rfl rfl rfl (ok_getR 57 rfl rfl fl_X12_33 rfl rfl (ok_iload 58 rfl rfl rfl (ok_iald 59 rfl rfl rfl (by first | omega | (simp [up_if]; omega) | (simp [up_if] at *; omega)) (ok_i2l 60 rfl rfl (ok_callSL (M' := M_Mo_common) (as := [_, _]) 61 rfl rfl ml_X12_89 (s_Mo_common (by omega) (by omega)) ⟨Nat.le_of_ble_eq_true rfl, Nat.le_of_ble_eq_true rfl⟩ rfl (Nat.le_of_ble_eq_true rfl) (fun σ' z hz => ?_)))))))))))
      rw [hz.1, hz.2]
      clear hz z σ'
      refine ok_ldiv 62 rfl rfl (by first | omega | (simp [up_if]; omega) | (simp [up_if] at *; omega)) (by first | omega | (simp [up_if]; omega) | (simp [up_if] at *; omega)) (ok_aload_n 63 rfl rfl rfl (ok_getR 64 rfl rfl fl_X12_33 rfl rfl (ok_iload 65 rfl rfl rfl (ok_iald 66 rfl rfl rfl (by first | omega | (simp [up_if]; omega) | (simp [up_if] at *; omega)) (ok_i2l 67 rfl rfl (ok_lmul 68 rfl rfl (by first | omega | (simp [up_if]; omega) | (simp [up_if] at *; omega)) (ok_putL 69 rfl rfl fl_X12_85 rfl rfl rfl rfl (ok_aload_n 70 rfl rfl rfl (ok_getL 71 rfl rfl fl_X12_85 rfl rfl (ok_ldc2 72 (999999) rfl rfl kc_X12_93 (by decide) (ok_lcmp_le 73 74 126 rfl rfl rfl rfl rfl (fun h120 => ?_) (fun h120 => ?_))))))))))))
      · refine ok_inc3 77 rfl rfl rfl (by first | omega | (simp [up_if]; omega) | (simp [up_if] at *; omega)) (ok_goto 78 17 rfl rfl rfl ?_)
        rw [up_same] at h120
        refine ok_fg [some (vr 0), some (vi s), some (vi i), some (vi (j + 1)), none, none, none] ⟨rfl, rfl, rfl, rfl, trivial⟩ (ih2 (j + 1) _ ⟨by omega, by omega, fr_up f1 (by omega), by rw [up_same]; omega, by rw [up_same]; omega, fun a b a1 a2 a3 a4 => ?_⟩ (by omega))
        unfold uOk
        rw [up_ne _ _ _ _ (by decide), up_ne _ _ _ _ (by decide)]
        exact b8 a b a1 a2 a3 a4
      · refine ok_iconst 75 rfl rfl (by decide) (ok_zret 76 rfl rfl rfl (by first | omega | (simp [up_if]; omega) | (simp [up_if] at *; omega)) ?_)
        exact ⟨_, rfl, fr_up (f1.mono (fun c k q => by simp only [rgO]; omega)) (by simp [rgO]), hB' _ (fr_up (f1.mono (fun c k q => by omega)) (by omega)) (fun k a b => by rw [up_ne _ _ _ _ (by decide), f1 4 k (by omega)]; exact hB.2.2 k a b), Or.inl rfl⟩
end
section
theorem iB1.fr {σ τ : eS} (h : iB1 σ) (f : ∀ (c : Nat) (k : Int), (c = 1 ∨ c = 2 ∨ c = 3 ∨ c = 4) → τ c k = σ c k) : iB1 τ :=
  ⟨fun t a b => by rw [f 1 t (by omega), f 2 t (by omega)]; exact h.1 t a b, fun k a b => by rw [f 3 k (by omega)]; exact h.2.1 k a b, fun k a b => by rw [f 4 k (by omega)]; exact h.2.2 k a b⟩
abbrev rgT : Nat → Int → Prop := fun c k => (c = 0 ∧ (k = 4 ∨ (6 ≤ k ∧ k ≤ 19))) ∨ c = 1 ∨ c = 2 ∨ c = 3 ∨ c = 4 ∨ c = 6 ∨ c = 7
def QT (σ : eS) (σ' : eS) (z : Int) : Prop := fr rgT σ σ' ∧ iB1 σ' ∧ σ' 0 6 = 0
theorem s_Mo_table {σ : eS} {s : Int} (hB : iB1 σ) (h6 : 0 ≤ σ 0 6 ∧ σ 0 6 ≤ 600) : MtI shB M_Mo_table [vr 0, vi s] σ (QT σ) := by
  refine Mt.of okM_Mo_table (Nat.le_of_ble_eq_true rfl) (fun hk hg => ?_)
  have tail : ∀ (τ : eS) (b : Int) (x : Option eV), fr rgT σ τ → iB1 τ → Ok shB M_Mo_table 132 [some (vr 0), some (vi s), some (vi b), x] [] τ (fun σ' v => ∃ z, v = some (vi z) ∧ QT σ σ' z) := by
    intro τ b x f hb
    refine ok_aload_n 69 rfl rfl rfl (ok_iconst 70 rfl rfl (by decide) (ok_putI 71 rfl rfl fl_X12_125 rfl rfl rfl rfl (ok_aload_n 72 rfl rfl rfl (ok_aload_n 73 rfl rfl rfl (ok_getI 74 rfl rfl fl_X12_154 rfl rfl (Or.inl rfl) (ok_putI 75 rfl rfl fl_X12_189 rfl rfl rfl rfl (ok_aload_n 76 rfl rfl rfl (ok_aload_n 77 rfl rfl rfl (ok_getI 78 rfl rfl fl_X12_157 rfl rfl (Or.inl rfl) (ok_putI 79 rfl rfl fl_X12_26 rfl rfl rfl rfl (ok_iload_n 80 rfl rfl rfl (ok_if_ne 81 162 rfl rfl rfl (fun h154 => ?_) (fun h154 => ?_)))))))))))))
    · refine ok_aload_n 84 rfl rfl rfl (ok_getI 85 rfl rfl fl_X12_154 rfl rfl (Or.inl rfl) (ok_if_eq 86 173 rfl rfl rfl (fun h166 => ?_) (fun h166 => ?_)))
      · refine ok_aload_n 89 rfl rfl rfl (ok_getI 90 rfl rfl fl_X12_167 rfl rfl (Or.inl rfl) (ok_iret 91 rfl rfl rfl ?_))
        exact ⟨_, rfl, fr_up (fr_up (fr_up f (by simp [rgT])) (by simp [rgT])) (by simp [rgT]), hb.fr (fun c k q => by rw [up_ne _ _ _ _ (by omega), up_ne _ _ _ _ (by omega), up_ne _ _ _ _ (by omega)]), by simp [up_if]⟩
      · refine ok_iconst 87 rfl rfl (by decide) (ok_goto 88 177 rfl rfl rfl (ok_iret 91 rfl rfl rfl ?_))
        exact ⟨_, rfl, fr_up (fr_up (fr_up f (by simp [rgT])) (by simp [rgT])) (by simp [rgT]), hb.fr (fun c k q => by rw [up_ne _ _ _ _ (by omega), up_ne _ _ _ _ (by omega), up_ne _ _ _ _ (by omega)]), by simp [up_if]⟩
    · refine ok_bipush 82 rfl rfl (by decide) (by decide) (ok_goto 83 177 rfl rfl rfl (ok_iret 91 rfl rfl rfl ?_))
      exact ⟨_, rfl, fr_up (fr_up (fr_up f (by simp [rgT])) (by simp [rgT])) (by simp [rgT]), hb.fr (fun c k q => by rw [up_ne _ _ _ _ (by omega), up_ne _ _ _ _ (by omega), up_ne _ _ _ _ (by omega)]), by simp [up_if]⟩
  obtain ⟨τ0, e0⟩ : ∃ x, x = up (up (up (up (up σ 0 18 0) 0 19 0) 0 13 0) 0 9 0) 0 10 (-1) := ⟨_, rfl⟩
  have f0 : fr rgT σ τ0 := by rw [e0]; exact fr_up (fr_up (fr_up (fr_up (fr_up fr.rf (by simp [rgT])) (by simp [rgT])) (by simp [rgT])) (by simp [rgT])) (by simp [rgT])
  have b0 : iB1 τ0 := hB.fr (fun c k q => by rw [e0]; simp only [up_if]; repeat rw [if_neg (by omega)])
  have a18 : τ0 0 18 = 0 := by rw [e0]; simp [up_if]
  have a19 : τ0 0 19 = 0 := by rw [e0]; simp [up_if]
  have a13 : τ0 0 13 = 0 := by rw [e0]; simp [up_if]
  have a9 : τ0 0 9 = 0 := by rw [e0]; simp [up_if]
  have a6 : τ0 0 6 = σ 0 6 := by rw [e0]; simp [up_if]
  have p0 : P0 τ0 := ⟨by omega, by omega, by omega⟩
  have start : ∀ (τ1 : eS), lex τ0 τ1 → fr rgT σ τ1 ∧ iB1 τ1 ∧ Pz τ1 ∧ τ1 0 9 = 0 ∧ RR τ1 := fun τ1 hl =>
    ⟨f0.tr (hl.1.mono (fun c k q => by simp only [rgT]; omega)), b0.fr (fun c k q => hl.1 c k (by omega)), Pz.of p0 hl, by rw [hl.1 0 9 (by omega)]; exact a9, by rw [hl.1 0 18 (by omega)]; omega, by rw [hl.1 0 18 (by omega)]; omega, by rw [hl.1 0 19 (by omega)]; omega, by rw [hl.1 0 19 (by omega)]; omega, fun i j q1 q2 q3 q4 => by rw [hl.1 0 18 (by omega)] at q2; omega⟩
  by_cases hs : 0 ≤ s ∧ s < 4
  · have after : ∀ (τ : eS), fr rgT σ τ → iB1 τ → (τ 0 9 ≠ 0 ∨ RR τ) → Ok shB M_Mo_table 78 [some (vr 0), some (vi s), some (vi 1), some (vi 0)] [] τ (fun σ' v => ∃ z, v = some (vi z) ∧ QT σ σ' z) := by
      intro τ f hb hx
      refine ok_iload_n 42 rfl rfl rfl (ok_if_eq 43 106 rfl rfl rfl (fun h79 => ?_) (fun h79 => ?_))
      · omega
      · refine ok_aload_n 44 rfl rfl rfl (ok_getI 45 rfl rfl fl_X12_154 rfl rfl (Or.inl rfl) (ok_if_ne 46 106 rfl rfl rfl (fun h86 => ?_) (fun h86 => ?_)))
        · refine ok_iload_n 56 rfl rfl rfl (ok_if_eq 57 132 rfl rfl rfl (fun h107 => ?_) (fun h107 => ?_))
          · omega
          · refine ok_aload_n 58 rfl rfl rfl (ok_getI 59 rfl rfl fl_X12_154 rfl rfl (Or.inl rfl) (ok_if_ne 60 132 rfl rfl rfl (fun h114 => ?_) (fun h114 => ?_)))
            · exact tail _ _ _ f hb
            · have hrr : RR τ := by
                rcases hx with q | q
                · omega
                · exact q
              have hw : τ 0 18 = τ 0 19 := by omega
              refine ok_aload_n 61 rfl rfl rfl (ok_iload_n 62 rfl rfl rfl (ok_callVI (M' := M_Mo_isOver) (as := [_]) 63 rfl rfl ml_X12_186 (s_Mo_isOver hb hs ⟨hrr.1, hrr.2.1⟩ (by have := hrr.2.2.2.2; rw [← hw] at this; exact this)) rfl rfl (Nat.le_of_ble_eq_true rfl) ⟨Nat.le_of_ble_eq_true rfl, Nat.le_of_ble_eq_true rfl⟩ rfl (Nat.le_of_ble_eq_true rfl) (fun τ1 z hz => ?_)))
              obtain ⟨q1, q2, q3⟩ := hz
              have g1 : fr rgT σ τ1 := f.tr (q1.mono (fun c k q => by simp only [rgO] at q; simp only [rgT]; omega))
              have hb1 := q2
              refine ok_if_ne 64 132 rfl rfl rfl (fun h122 => ?_) (fun h122 => ?_)
              · first | exact tail _ _ _ g2 hb2 | exact tail _ _ _ g1 hb1
              · refine ok_aload_n 65 rfl rfl rfl (ok_bipush 66 rfl rfl (by decide) (by decide) (ok_callVI (M' := M_Mo_fails) (as := [_]) 67 rfl rfl ml_X12_164 (s_Mo_fails (by decide)) rfl rfl (Nat.le_of_ble_eq_true rfl) ⟨Nat.le_of_ble_eq_true rfl, Nat.le_of_ble_eq_true rfl⟩ rfl (Nat.le_of_ble_eq_true rfl) (fun σ' z hz => ?_)))
                obtain ⟨-, y1, y2⟩ := hz
                have g2 : fr rgT σ σ' := g1.tr (y1.mono (fun c k q => by simp only [rgT]; omega))
                have hb2 : iB1 σ' := hb1.fr (fun c k q => y1 c k (by omega))
                refine ok_pop 68 rfl rfl rfl ?_
                first | exact tail _ _ _ g2 hb2 | exact tail _ _ _ g1 hb1
        · refine ok_aload_n 47 rfl rfl rfl (ok_getI 48 rfl rfl fl_X12_167 rfl rfl (Or.inl rfl) (ok_aload_n 49 rfl rfl rfl (ok_getI 50 rfl rfl fl_X12_170 rfl rfl (Or.inl rfl) (ok_icmp_eq 51 106 rfl rfl rfl (fun h97 => ?_) (fun h97 => ?_)))))
          · refine ok_iload_n 56 rfl rfl rfl (ok_if_eq 57 132 rfl rfl rfl (fun h107 => ?_) (fun h107 => ?_))
            · omega
            · refine ok_aload_n 58 rfl rfl rfl (ok_getI 59 rfl rfl fl_X12_154 rfl rfl (Or.inl rfl) (ok_if_ne 60 132 rfl rfl rfl (fun h114 => ?_) (fun h114 => ?_)))
              · exact tail _ _ _ f hb
              · have hrr : RR τ := by
                  rcases hx with q | q
                  · omega
                  · exact q
                have hw : τ 0 18 = τ 0 19 := by omega
                refine ok_aload_n 61 rfl rfl rfl (ok_iload_n 62 rfl rfl rfl (ok_callVI (M' := M_Mo_isOver) (as := [_]) 63 rfl rfl ml_X12_186 (s_Mo_isOver hb hs ⟨hrr.1, hrr.2.1⟩ (by have := hrr.2.2.2.2; rw [← hw] at this; exact this)) rfl rfl (Nat.le_of_ble_eq_true rfl) ⟨Nat.le_of_ble_eq_true rfl, Nat.le_of_ble_eq_true rfl⟩ rfl (Nat.le_of_ble_eq_true rfl) (fun τ1 z hz => ?_)))
                obtain ⟨q1, q2, q3⟩ := hz
                have g1 : fr rgT σ τ1 := f.tr (q1.mono (fun c k q => by simp only [rgO] at q; simp only [rgT]; omega))
                have hb1 := q2
                refine ok_if_ne 64 132 rfl rfl rfl (fun h122 => ?_) (fun h122 => ?_)
                · first | exact tail _ _ _ g2 hb2 | exact tail _ _ _ g1 hb1
                · refine ok_aload_n 65 rfl rfl rfl (ok_bipush 66 rfl rfl (by decide) (by decide) (ok_callVI (M' := M_Mo_fails) (as := [_]) 67 rfl rfl ml_X12_164 (s_Mo_fails (by decide)) rfl rfl (Nat.le_of_ble_eq_true rfl) ⟨Nat.le_of_ble_eq_true rfl, Nat.le_of_ble_eq_true rfl⟩ rfl (Nat.le_of_ble_eq_true rfl) (fun σ' z hz => ?_)))
                  obtain ⟨-, y1, y2⟩ := hz
                  have g2 : fr rgT σ σ' := g1.tr (y1.mono (fun c k q => by simp only [rgT]; omega))
                  have hb2 : iB1 σ' := hb1.fr (fun c k q => y1 c k (by omega))
                  refine ok_pop 68 rfl rfl rfl ?_
                  first | exact tail _ _ _ g2 hb2 | exact tail _ _ _ g1 hb1
          · refine ok_aload_n 52 rfl rfl rfl (ok_iconst 53 rfl rfl (by decide) (ok_callVI (M' := M_Mo_fails) (as := [_]) 54 rfl rfl ml_X12_164 (s_Mo_fails (by decide)) rfl rfl (Nat.le_of_ble_eq_true rfl) ⟨Nat.le_of_ble_eq_true rfl, Nat.le_of_ble_eq_true rfl⟩ rfl (Nat.le_of_ble_eq_true rfl) (fun σ' z hz => ?_)))
            obtain ⟨-, q1, q2⟩ := hz
            have g : fr rgT σ σ' := f.tr (q1.mono (fun c k q => by simp only [rgT]; omega))
            have hb' : iB1 σ' := hb.fr (fun c k q => q1 c k (by omega))
            refine ok_pop 55 rfl rfl rfl (ok_iload_n 56 rfl rfl rfl (ok_if_eq 57 132 rfl rfl rfl (fun h107 => ?_) (fun h107 => ?_)))
            · omega
            · refine ok_aload_n 58 rfl rfl rfl (ok_getI 59 rfl rfl fl_X12_154 rfl rfl (Or.inl rfl) (ok_if_ne 60 132 rfl rfl rfl (fun h114 => ?_) (fun h114 => ?_)))
              · exact tail _ _ _ g hb'
              · exact absurd h114 q2
    have loop : ∀ (m : Int) (τ : eS), (m = 0 ∨ m = 1) → fr rgT σ τ → iB1 τ → Pz τ → (m = 1 → RR τ ∧ τ 0 9 = 0 ∧ τ 0 11 ≠ 0) → (m = 0 → (τ 0 9 ≠ 0 ∨ RR τ)) → Ok shB M_Mo_table 51 [some (vr 0), some (vi s), some (vi 1), some (vi m)] [] τ (fun σ' v => ∃ z, v = some (vi z) ∧ QT σ σ' z) := by
      intro m τ h1 h2 h3 h4 h5 h6
      refine lpO2 (fun (m : Int) (_ : eS) => [some (vr 0), some (vi s), some (vi 1), some (vi m)]) (fun _ τ => τ) (fun m τ => (m = 0 ∨ m = 1) ∧ fr rgT σ τ ∧ iB1 τ ∧ Pz τ ∧ (m = 1 → RR τ ∧ τ 0 9 = 0 ∧ τ 0 11 ≠ 0) ∧ (m = 0 → (τ 0 9 ≠ 0 ∨ RR τ))) (fun m τ => if m = 0 then 0 else (700 - τ 0 12).toNat + 1) ?_ m τ ⟨h1, h2, h3, h4, h5, h6⟩
      clear h1 h2 h3 h4 h5 h6 m τ
      rintro m τ ⟨h1, h2, h3, h4, h5, h6⟩ ih
      refine ok_iload_n 29 rfl rfl rfl (ok_if_eq 30 78 rfl rfl rfl (fun h52 => ?_) (fun h52 => ?_))
      · rw [show m = 0 by omega]
        exact after τ h2 h3 (h6 (by omega))
      · have hm : m = 1 := by omega
        subst hm
        obtain ⟨k1, k2, k3⟩ := h5 rfl
        refine ok_aload_n 31 rfl rfl rfl (ok_callVI (M' := M_Mo_readRow) (as := []) 32 rfl rfl ml_X12_183 (s_Mo_readRow h4 k1) rfl rfl (Nat.le_of_ble_eq_true rfl) ⟨Nat.le_of_ble_eq_true rfl, Nat.le_of_ble_eq_true rfl⟩ rfl (Nat.le_of_ble_eq_true rfl) (fun τ1 z hz => ?_))
        obtain ⟨z1, z2, z3⟩ := hz
        have g1 : fr rgT σ τ1 := h2.tr (z1.mono (fun c k q => by simp only [rgR] at q; simp only [rgT]; omega))
        have hb1 : iB1 τ1 := h3.fr (fun c k q => z1 c k (by simp only [rgR]; omega))
        have l1 := h4.1
        have l2 := z2.2.1
        have l3 := z2.2.2.1
        have l4 := z2.2.2.2.1
        refine ok_if_eq 33 73 rfl rfl rfl (fun h59 => ?_) (fun h59 => ?_)
        · refine ok_iconst 39 rfl rfl (by decide) (ok_ist3 40 rfl rfl rfl (ok_goto 41 51 rfl rfl rfl ?_))
          refine ih _ τ1 ⟨by omega, g1, hb1, z2, fun q => ?_, fun q => ?_⟩ (by
            rcases z3 with ⟨y1, y2⟩ | ⟨y1, y2, y3, y4⟩
            · first | omega | (simp; done)
            · first | (rw [if_neg (by decide), if_neg (by decide)]; omega) | (simp; done))
          · rcases z3 with ⟨y1, y2⟩ | ⟨y1, y2, y3, y4⟩
            · omega
            · exact ⟨y3, by omega, by omega⟩
          · rcases z3 with ⟨y1, y2⟩ | ⟨y1, y2, y3, y4⟩
            · exact Or.inl y2
            · exact Or.inr y3
        · refine ok_aload_n 34 rfl rfl rfl (ok_getI 35 rfl rfl fl_X12_147 rfl rfl (Or.inl rfl) (ok_if_eq 36 73 rfl rfl rfl (fun h66 => ?_) (fun h66 => ?_)))
          · refine ok_iconst 39 rfl rfl (by decide) (ok_ist3 40 rfl rfl rfl (ok_goto 41 51 rfl rfl rfl ?_))
            refine ih _ τ1 ⟨by omega, g1, hb1, z2, fun q => ?_, fun q => ?_⟩ (by
              rcases z3 with ⟨y1, y2⟩ | ⟨y1, y2, y3, y4⟩
              · first | omega | (simp; done)
              · first | (rw [if_neg (by decide), if_neg (by decide)]; omega) | (simp; done))
            · rcases z3 with ⟨y1, y2⟩ | ⟨y1, y2, y3, y4⟩
              · omega
              · exact ⟨y3, by omega, by omega⟩
            · rcases z3 with ⟨y1, y2⟩ | ⟨y1, y2, y3, y4⟩
              · exact Or.inl y2
              · exact Or.inr y3
          · refine ok_iconst 37 rfl rfl (by decide) (ok_goto 38 74 rfl rfl rfl (ok_ist3 40 rfl rfl rfl (ok_goto 41 51 rfl rfl rfl ?_)))
            refine ih _ τ1 ⟨by omega, g1, hb1, z2, fun q => ?_, fun q => ?_⟩ (by
              rcases z3 with ⟨y1, y2⟩ | ⟨y1, y2, y3, y4⟩
              · first | omega | (simp; done)
              · first | (rw [if_neg (by decide), if_neg (by decide)]; omega) | (simp; done))
            · rcases z3 with ⟨y1, y2⟩ | ⟨y1, y2, y3, y4⟩
              · omega
              · exact ⟨y3, by omega, by omega⟩
            · rcases z3 with ⟨y1, y2⟩ | ⟨y1, y2, y3, y4⟩
              · exact Or.inl y2
              · exact Or.inr y3
    refine ok_aload_n 0 rfl rfl rfl (ok_iconst 1 rfl rfl (by decide) (ok_putI 2 rfl rfl fl_X12_167 rfl rfl rfl rfl (ok_aload_n 3 rfl rfl rfl (ok_iconst 4 rfl rfl (by decide) (ok_putI 5 rfl rfl fl_X12_170 rfl rfl rfl rfl (ok_aload_n 6 rfl rfl rfl (ok_iconst 7 rfl rfl (by decide) (ok_putI 8 rfl rfl fl_X12_132 rfl rfl rfl rfl (ok_aload_n 9 rfl rfl rfl (ok_iconst 10 rfl rfl (by decide) (ok_putI 11 rfl rfl fl_X12_154 rfl rfl rfl rfl (ok_aload_n 12 rfl rfl rfl (ok_iconst 13 rfl rfl (by decide) (ok_putI 14 rfl rfl fl_X12_157 rfl rfl rfl rfl ?_))))))))))))))
    rw [← e0]
    refine ok_aload_n 15 rfl rfl rfl (ok_callVV (M' := M_Mo_next) (as := []) 16 rfl rfl ml_X12_173 (s_Mo_next p0) rfl rfl (Nat.le_of_ble_eq_true rfl) ⟨Nat.le_of_ble_eq_true rfl, Nat.le_of_ble_eq_true rfl⟩ rfl (Nat.le_of_ble_eq_true rfl) (fun τ1 hl => ?_))
    obtain ⟨s1, s2, s3, s4, s5⟩ := start τ1 hl
    refine ok_iload_n 17 rfl rfl rfl (ok_callSI (M' := M_Mo_isSlot) (as := [_]) 18 rfl rfl ml_X12_103 (s_Mo_isSlot_y hs) ⟨Nat.le_of_ble_eq_true rfl, Nat.le_of_ble_eq_true rfl⟩ rfl (Nat.le_of_ble_eq_true rfl) (fun σ' z hz => ?_))
    rw [hz.1, hz.2]
    clear hz z σ'
    refine ok_ist2 19 rfl rfl rfl (ok_iload_n 20 rfl rfl rfl (ok_if_eq 21 49 rfl rfl rfl (fun h35 => ?_) (fun h35 => ?_)))
    · omega
    · refine ok_aload_n 22 rfl rfl rfl (ok_getI 23 rfl rfl fl_X12_147 rfl rfl (Or.inl rfl) (ok_if_eq 24 49 rfl rfl rfl (fun h42 => ?_) (fun h42 => ?_)))
      · refine ok_iconst 27 rfl rfl (by decide) (ok_ist3 28 rfl rfl rfl ?_)
        exact loop _ τ1 (by omega) s1 s2 s3 (fun q => ⟨s5, s4, by omega⟩) (fun _ => Or.inr s5)
      · refine ok_iconst 25 rfl rfl (by decide) (ok_goto 26 50 rfl rfl rfl (ok_ist3 28 rfl rfl rfl ?_))
        exact loop _ τ1 (by omega) s1 s2 s3 (fun q => ⟨s5, s4, by omega⟩) (fun _ => Or.inr s5)
  · refine ok_aload_n 0 rfl rfl rfl (ok_iconst 1 rfl rfl (by decide) (ok_putI 2 rfl rfl fl_X12_167 rfl rfl rfl rfl (ok_aload_n 3 rfl rfl rfl (ok_iconst 4 rfl rfl (by decide) (ok_putI 5 rfl rfl fl_X12_170 rfl rfl rfl rfl (ok_aload_n 6 rfl rfl rfl (ok_iconst 7 rfl rfl (by decide) (ok_putI 8 rfl rfl fl_X12_132 rfl rfl rfl rfl (ok_aload_n 9 rfl rfl rfl (ok_iconst 10 rfl rfl (by decide) (ok_putI 11 rfl rfl fl_X12_154 rfl rfl rfl rfl (ok_aload_n 12 rfl rfl rfl (ok_iconst 13 rfl rfl (by decide) (ok_putI 14 rfl rfl fl_X12_157 rfl rfl rfl rfl ?_))))))))))))))
    rw [← e0]
    refine ok_aload_n 15 rfl rfl rfl (ok_callVV (M' := M_Mo_next) (as := []) 16 rfl rfl ml_X12_173 (s_Mo_next p0) rfl rfl (Nat.le_of_ble_eq_true rfl) ⟨Nat.le_of_ble_eq_true rfl, Nat.le_of_ble_eq_true rfl⟩ rfl (Nat.le_of_ble_eq_true rfl) (fun τ1 hl => ?_))
    obtain ⟨s1, s2, s3, s4, s5⟩ := start τ1 hl
    refine ok_iload_n 17 rfl rfl rfl (ok_callSI (M' := M_Mo_isSlot) (as := [_]) 18 rfl rfl ml_X12_103 (s_Mo_isSlot_n hs) ⟨Nat.le_of_ble_eq_true rfl, Nat.le_of_ble_eq_true rfl⟩ rfl (Nat.le_of_ble_eq_true rfl) (fun σ' z hz => ?_))
    rw [hz.1, hz.2]
    clear hz z σ'
    refine ok_ist2 19 rfl rfl rfl (ok_iload_n 20 rfl rfl rfl (ok_if_eq 21 49 rfl rfl rfl (fun h35 => ?_) (fun h35 => ?_)))
    · refine ok_iconst 27 rfl rfl (by decide) (ok_ist3 28 rfl rfl rfl (ok_iload_n 29 rfl rfl rfl (ok_if_eq 30 78 rfl rfl rfl (fun h52 => ?_) (fun h52 => ?_))))
      · refine ok_iload_n 42 rfl rfl rfl (ok_if_eq 43 106 rfl rfl rfl (fun h79 => ?_) (fun h79 => ?_))
        · refine ok_iload_n 56 rfl rfl rfl (ok_if_eq 57 132 rfl rfl rfl (fun h107 => ?_) (fun h107 => ?_))
          · exact tail _ _ _ s1 s2
          · omega
        · omega
      · omega
    · omega
theorem s_Mo_fault {σ : eS} {w : Int} : MtI shB M_Mo_fault [vr 0, vi w] σ (fun σ' z => σ' = σ ∧ z = if w = 0 then σ 0 7 else if w = 1 then σ 0 8 else -1) := by
  refine Mt.of okM_Mo_fault (Nat.le_of_ble_eq_true rfl) (fun hk hg => ?_)
  refine ok_iload_n 0 rfl rfl rfl (ok_if_ne 1 11 rfl rfl rfl (fun h1 => ?_) (fun h1 => ?_))
  · refine ok_iload_n 5 rfl rfl rfl (ok_iconst 6 rfl rfl (by decide) (ok_icmp_ne 7 23 rfl rfl rfl (fun h13 => ?_) (fun h13 => ?_)))
    · refine ok_iconst 11 rfl rfl (by decide) (ok_iret 12 rfl rfl rfl ?_)
      refine ⟨_, rfl, rfl, ?_⟩
      first | rw [if_pos (by omega)] | rw [if_neg (by omega), if_pos (by omega)] | rw [if_neg (by omega), if_neg (by omega)]
    · refine ok_aload_n 8 rfl rfl rfl (ok_getI 9 rfl rfl fl_X12_26 rfl rfl (Or.inl rfl) (ok_goto 10 24 rfl rfl rfl (ok_iret 12 rfl rfl rfl ?_)))
      refine ⟨_, rfl, rfl, ?_⟩
      first | rw [if_pos (by omega)] | rw [if_neg (by omega), if_pos (by omega)] | rw [if_neg (by omega), if_neg (by omega)]
  · refine ok_aload_n 2 rfl rfl rfl (ok_getI 3 rfl rfl fl_X12_189 rfl rfl (Or.inl rfl) (ok_goto 4 24 rfl rfl rfl (ok_iret 12 rfl rfl rfl ?_)))
    refine ⟨_, rfl, rfl, ?_⟩
    first | rw [if_pos (by omega)] | rw [if_neg (by omega), if_pos (by omega)] | rw [if_neg (by omega), if_neg (by omega)]
end
section
theorem s_Mo_groupsOf {σ : eS} {s : Int} (hB : iB1 σ) (hs : 0 ≤ s ∧ s < 4) : MtI shB M_Mo_groupsOf [vr 0, vi s] σ (fun σ' z => fr (fun c _ => c = 8) σ σ' ∧ 0 ≤ z ∧ z ≤ 16) := by
  refine Mt.of okM_Mo_groupsOf (Nat.le_of_ble_eq_true rfl) (fun hk hg => ?_)
  obtain ⟨n, en⟩ : ∃ x, x = σ 1 s := ⟨_, rfl⟩
  obtain ⟨g1, g2, -⟩ := hB.1 s hs.1 hs.2
  rw [← en] at g1 g2
  have hF : ∀ τ : eS, fr (fun c _ => c = 8) σ τ → iB1 τ ∧ τ 1 s = n := fun τ f => ⟨hB.fr (fun c k q => f c k (by omega)), by rw [f 1 s (by omega), en]⟩
  refine ok_aload_n 0 rfl rfl rfl (ok_getR 1 rfl rfl fl_X12_7 rfl rfl (ok_iload_n 2 rfl rfl rfl (ok_iald 3 rfl rfl rfl (by first | omega | (simp [up_if]; omega) | (simp [up_if] at *; omega)) (ok_ist2 4 rfl rfl rfl (ok_iconst 5 rfl rfl (by decide) (ok_ist3 6 rfl rfl rfl ?_))))))
  rw [← en]
  refine lpO2 (fun (k : Int) (_ : eS) => [some (vr 0), some (vi s), some (vi n), some (vi k), none, none, none]) (fun _ τ => τ) (fun k τ => 0 ≤ k ∧ k ≤ 16 ∧ fr (fun c _ => c = 8) σ τ) (fun k _ => (16 - k).toNat) ?_ 0 σ ⟨by omega, by omega, fr.rf⟩
  rintro k τ ⟨i1, i2, i3⟩ ih
  refine ok_iload_n 7 rfl rfl rfl (ok_bipush 8 rfl rfl (by decide) (by decide) (ok_icmp_ge 9 28 rfl rfl rfl (fun h12 => ?_) (fun h12 => ?_)))
  · refine ok_iconst 17 rfl rfl (by decide) (ok_ist3 18 rfl rfl rfl ?_)
    clear ih i1 i2 h12
    refine lpO2 (fun (i : Int) (_ : eS) => [some (vr 0), some (vi s), some (vi n), some (vi i), none, none, none]) (fun _ τ => τ) (fun i τ => 0 ≤ i ∧ i ≤ n ∧ fr (fun c _ => c = 8) σ τ) (fun i _ => (n - i).toNat) ?_ 0 τ ⟨by omega, by omega, i3⟩
    clear i3 τ k
    rintro i τ ⟨i1, i2, i3⟩ ih
    refine ok_iload_n 19 rfl rfl rfl (ok_iload_n 20 rfl rfl rfl (ok_icmp_ge 21 134 rfl rfl rfl (fun h32 => ?_) (fun h32 => ?_)))
    · refine ok_iconst 72 rfl rfl (by decide) (ok_ist3 73 rfl rfl rfl (ok_iconst 74 rfl rfl (by decide) (ok_ist4 75 rfl rfl rfl ?_)))
      clear ih i1 i2 h32
      refine lpO2 (fun (a k : Int) => [some (vr 0), some (vi s), some (vi n), some (vi a), some (vi k), none, none]) (fun _ _ => τ) (fun a k => 0 ≤ k ∧ k ≤ n ∧ 0 ≤ a ∧ a ≤ 2 * k) (fun _ k => (n - k).toNat) ?_ 0 0 ⟨by omega, by omega, by omega, by omega⟩
      rintro a k ⟨k1, k2, k3, k4⟩ ih
      refine ok_iload 76 rfl rfl rfl (ok_iload_n 77 rfl rfl rfl (ok_icmp_ge 78 201 rfl rfl rfl (fun h142 => ?_) (fun h142 => ?_)))
      · refine ok_iload_n 109 rfl rfl rfl (ok_iret 110 rfl rfl rfl ?_)
        exact ⟨_, rfl, i3, by omega, by omega⟩
      · refine ok_iload_n 79 rfl rfl rfl (ok_aload_n 80 rfl rfl rfl (ok_getR 81 rfl rfl fl_X12_36 rfl rfl (ok_iload 82 rfl rfl rfl (ok_iald 83 rfl rfl rfl (by first | omega | (simp [up_if]; omega) | (simp [up_if] at *; omega)) (ok_iload 84 rfl rfl rfl (ok_icmp_ne 85 162 rfl rfl rfl (fun h155 => ?_) (fun h155 => ?_)))))))
        · refine ok_iconst 88 rfl rfl (by decide) (ok_callSI (M' := M_Mo_one) (as := [_]) 89 rfl rfl ml_X12_192 (s_Mo_one) ⟨Nat.le_of_ble_eq_true rfl, Nat.le_of_ble_eq_true rfl⟩ rfl (Nat.le_of_ble_eq_true rfl) (fun σ' z1 hz1 => ?_))
          obtain ⟨hs_, hz1⟩ := hz1
          rw [hs_]; clear hs_ σ'
          have q1 : 0 ≤ z1 ∧ z1 ≤ 1 := by rw [hz1]; split <;> omega
          refine ok_aload_n 90 rfl rfl rfl (ok_getR 91 rfl rfl fl_X12_36 rfl rfl (ok_bipush 92 rfl rfl (by decide) (by decide) (ok_iload 93 rfl rfl rfl (ok_iadd 94 rfl rfl (by first | omega | (simp [up_if]; omega) | (simp [up_if] at *; omega)) (ok_iald 95 rfl rfl rfl (by first | omega | (simp [up_if]; omega) | (simp [up_if] at *; omega)) (ok_bipush 96 rfl rfl (by decide) (by decide) (ok_iload 97 rfl rfl rfl (ok_iadd 98 rfl rfl (by first | omega | (simp [up_if]; omega) | (simp [up_if] at *; omega)) (ok_icmp_ne 99 188 rfl rfl rfl (fun h181 => ?_) (fun h181 => ?_))))))))))
          · refine ok_iconst 102 rfl rfl (by decide) (ok_callSI (M' := M_Mo_one) (as := [_]) 103 rfl rfl ml_X12_192 (s_Mo_one) ⟨Nat.le_of_ble_eq_true rfl, Nat.le_of_ble_eq_true rfl⟩ rfl (Nat.le_of_ble_eq_true rfl) (fun σ' z2 hz2 => ?_))
            obtain ⟨hs_, hz2⟩ := hz2
            rw [hs_]; clear hs_ σ'
            have q2 : 0 ≤ z2 ∧ z2 ≤ 1 := by rw [hz2]; split <;> omega
            refine ok_iadd 104 rfl rfl (by first | omega | (simp [up_if]; omega) | (simp [up_if] at *; omega)) (ok_iadd 105 rfl rfl (by first | omega | (simp [up_if]; omega) | (simp [up_if] at *; omega)) (ok_ist3 106 rfl rfl rfl (ok_inc4 107 rfl rfl rfl (by first | omega | (simp [up_if]; omega) | (simp [up_if] at *; omega)) (ok_goto 108 139 rfl rfl rfl ?_))))
            exact ih _ (k + 1) ⟨by omega, by omega, by omega, by omega⟩ (by omega)
          · refine ok_iconst 100 rfl rfl (by decide) (ok_goto 101 189 rfl rfl rfl (ok_callSI (M' := M_Mo_one) (as := [_]) 103 rfl rfl ml_X12_192 (s_Mo_one) ⟨Nat.le_of_ble_eq_true rfl, Nat.le_of_ble_eq_true rfl⟩ rfl (Nat.le_of_ble_eq_true rfl) (fun σ' z2 hz2 => ?_)))
            obtain ⟨hs_, hz2⟩ := hz2
            rw [hs_]; clear hs_ σ'
            have q2 : 0 ≤ z2 ∧ z2 ≤ 1 := by rw [hz2]; split <;> omega
            refine ok_iadd 104 rfl rfl (by first | omega | (simp [up_if]; omega) | (simp [up_if] at *; omega)) (ok_iadd 105 rfl rfl (by first | omega | (simp [up_if]; omega) | (simp [up_if] at *; omega)) (ok_ist3 106 rfl rfl rfl (ok_inc4 107 rfl rfl rfl (by first | omega | (simp [up_if]; omega) | (simp [up_if] at *; omega)) (ok_goto 108 139 rfl rfl rfl ?_))))
            exact ih _ (k + 1) ⟨by omega, by omega, by omega, by omega⟩ (by omega)
        · refine ok_iconst 86 rfl rfl (by decide) (ok_goto 87 163 rfl rfl rfl (ok_callSI (M' := M_Mo_one) (as := [_]) 89 rfl rfl ml_X12_192 (s_Mo_one) ⟨Nat.le_of_ble_eq_true rfl, Nat.le_of_ble_eq_true rfl⟩ rfl (Nat.le_of_ble_eq_true rfl) (fun σ' z1 hz1 => ?_)))
          obtain ⟨hs_, hz1⟩ := hz1
          rw [hs_]; clear hs_ σ'
          have q1 : 0 ≤ z1 ∧ z1 ≤ 1 := by rw [hz1]; split <;> omega
          refine ok_aload_n 90 rfl rfl rfl (ok_getR 91 rfl rfl fl_X12_36 rfl rfl (ok_bipush 92 rfl rfl (by decide) (by decide) (ok_iload 93 rfl rfl rfl (ok_iadd 94 rfl rfl (by first | omega | (simp [up_if]; omega) | (simp [up_if] at *; omega)) (ok_iald 95 rfl rfl rfl (by first | omega | (simp [up_if]; omega) | (simp [up_if] at *; omega)) (ok_bipush 96 rfl rfl (by decide) (by decide) (ok_iload 97 rfl rfl rfl (ok_iadd 98 rfl rfl (by first | omega | (simp [up_if]; omega) | (simp [up_if] at *; omega)) (ok_icmp_ne 99 188 rfl rfl rfl (fun h181 => ?_) (fun h181 => ?_))))))))))
          · refine ok_iconst 102 rfl rfl (by decide) (ok_callSI (M' := M_Mo_one) (as := [_]) 103 rfl rfl ml_X12_192 (s_Mo_one) ⟨Nat.le_of_ble_eq_true rfl, Nat.le_of_ble_eq_true rfl⟩ rfl (Nat.le_of_ble_eq_true rfl) (fun σ' z2 hz2 => ?_))
            obtain ⟨hs_, hz2⟩ := hz2
            rw [hs_]; clear hs_ σ'
            have q2 : 0 ≤ z2 ∧ z2 ≤ 1 := by rw [hz2]; split <;> omega
            refine ok_iadd 104 rfl rfl (by first | omega | (simp [up_if]; omega) | (simp [up_if] at *; omega)) (ok_iadd 105 rfl rfl (by first | omega | (simp [up_if]; omega) | (simp [up_if] at *; omega)) (ok_ist3 106 rfl rfl rfl (ok_inc4 107 rfl rfl rfl (by first | omega | (simp [up_if]; omega) | (simp [up_if] at *; omega)) (ok_goto 108 139 rfl rfl rfl ?_))))
            exact ih _ (k + 1) ⟨by omega, by omega, by omega, by omega⟩ (by omega)
          · refine ok_iconst 100 rfl rfl (by decide) (ok_goto 101 189 rfl rfl rfl (ok_callSI (M' := M_Mo_one) (as := [_]) 103 rfl rfl ml_X12_192 (s_Mo_one) ⟨Nat.le_of_ble_eq_true rfl, Nat.le_of_ble_eq_true rfl⟩ rfl (Nat.le_of_ble_eq_true rfl) (fun σ' z2 hz2 => ?_)))
            obtain ⟨hs_, hz2⟩ := hz2
            rw [hs_]; clear hs_ σ'
            have q2 : 0 ≤ z2 ∧ z2 ≤ 1 := by rw [hz2]; split <;> omega
            refine ok_iadd 104 rfl rfl (by first | omega | (simp [up_if]; omega) | (simp [up_if] at *; omega)) (ok_iadd 105 rfl rfl (by first | omega | (simp [up_if]; omega) | (simp [up_if] at *; omega)) (ok_ist3 106 rfl rfl rfl (ok_inc4 107 rfl rfl rfl (by first | omega | (simp [up_if]; omega) | (simp [up_if] at *; omega)) (ok_goto 108 139 rfl rfl rfl ?_))))
            exact ih _ (k + 1) ⟨by omega, by omega, by omega, by omega⟩ (by omega)
    · refine ok_iconst 22 rfl rfl (by decide) (ok_ist4 23 rfl rfl rfl ?_)
      refine lpO2 (fun (j : Int) (_ : eS) => [some (vr 0), some (vi s), some (vi n), some (vi i), some (vi j), none, none]) (fun _ τ => τ) (fun j τ => 0 ≤ j ∧ j ≤ n ∧ fr (fun c _ => c = 8) σ τ) (fun j _ => (n - j).toNat) ?_ 0 τ ⟨by omega, by omega, i3⟩
      clear i3 τ
      rintro j τ ⟨j1, j2, i3⟩ ih2
      obtain ⟨b1, b2⟩ := hF τ i3
      have back : ∀ (τ : eS) (x y : Option eV), fr (fun c _ => c = 8) σ τ → j < n → Ok shB M_Mo_groupsOf 122 [some (vr 0), some (vi s), some (vi n), some (vi i), some (vi j), x, y] [] τ (fun σ' v => ∃ z, v = some (vi z) ∧ fr (fun c _ => c = 8) σ σ' ∧ 0 ≤ z ∧ z ≤ 16) := by
        intro τ x y f hj
        refine ok_inc4 68 rfl rfl rfl (by first | omega | (simp [up_if]; omega) | (simp [up_if] at *; omega)) (ok_goto 69 38 rfl rfl rfl ?_)
        exact ok_fg [some (vr 0), some (vi s), some (vi n), some (vi i), some (vi (j + 1)), none, none] ⟨rfl, rfl, rfl, rfl, rfl, trivial⟩ (ih2 (j + 1) τ ⟨by omega, by omega, f⟩ (by omega))
      refine ok_iload 24 rfl rfl rfl (ok_iload_n 25 rfl rfl rfl (ok_icmp_ge 26 128 rfl rfl rfl (fun h41 => ?_) (fun h41 => ?_)))
      · refine ok_inc3 70 rfl rfl rfl (by first | omega | (simp [up_if]; omega) | (simp [up_if] at *; omega)) (ok_goto 71 30 rfl rfl rfl ?_)
        exact ok_fg [some (vr 0), some (vi s), some (vi n), some (vi (i + 1)), none, none, none] ⟨rfl, rfl, rfl, rfl, trivial⟩ (ih (i + 1) τ ⟨by omega, by omega, i3⟩ (by omega))
      · refine ok_aload_n 27 rfl rfl rfl (ok_getR 28 rfl rfl fl_X12_36 rfl rfl (ok_bipush 29 rfl rfl (by decide) (by decide) (ok_iload 30 rfl rfl rfl (ok_iadd 31 rfl rfl (by first | omega | (simp [up_if]; omega) | (simp [up_if] at *; omega)) (ok_iald 32 rfl rfl rfl (by first | omega | (simp [up_if]; omega) | (simp [up_if] at *; omega)) (ok_ist5 33 rfl rfl rfl (ok_aload_n 34 rfl rfl rfl (ok_iload_n 35 rfl rfl rfl (ok_iload_n 36 rfl rfl rfl (ok_iload 37 rfl rfl rfl (ok_callVI (M' := M_Mo_at) (as := [_, _, _]) 38 rfl rfl ml_X12_107 (s_Mo_at b1 hs ⟨by omega, by omega⟩ ⟨by omega, by omega⟩) rfl rfl (Nat.le_of_ble_eq_true rfl) ⟨Nat.le_of_ble_eq_true rfl, Nat.le_of_ble_eq_true rfl⟩ rfl (Nat.le_of_ble_eq_true rfl) (fun σ' z hz => ?_))))))))))))
        rw [hz.1, hz.2]
        clear hz z σ'
        refine ok_if_eq 39 122 rfl rfl rfl (fun h64 => ?_) (fun h64 => ?_)
        · exact back τ _ _ i3 (by omega)
        · refine ok_iload 40 rfl rfl rfl (ok_aload_n 41 rfl rfl rfl (ok_getR 42 rfl rfl fl_X12_36 rfl rfl (ok_iload_n 43 rfl rfl rfl (ok_iald 44 rfl rfl rfl (by first | omega | (simp [up_if]; omega) | (simp [up_if] at *; omega)) (ok_icmp_ne 45 81 rfl rfl rfl (fun h75 => ?_) (fun h75 => ?_))))))
          · refine ok_iconst 47 rfl rfl (by decide) (ok_ist6 48 rfl rfl rfl ?_)
            refine lpO2 (fun (k : Int) (_ : eS) => [some (vr 0), some (vi s), some (vi n), some (vi i), some (vi j), some (vi (τ 8 (8 + j))), some (vi k)]) (fun _ τ => τ) (fun k τ => 0 ≤ k ∧ k ≤ 16 ∧ fr (fun c _ => c = 8) σ τ) (fun k _ => (16 - k).toNat) ?_ 0 τ ⟨by omega, by omega, i3⟩
            rintro k ρ ⟨k1, k2, k3⟩ ih3
            refine ok_iload 49 rfl rfl rfl (ok_bipush 50 rfl rfl (by decide) (by decide) (ok_icmp_ge 51 122 rfl rfl rfl (fun h88 => ?_) (fun h88 => ?_)))
            · exact back ρ _ _ k3 (by omega)
            · refine ok_aload_n 52 rfl rfl rfl (ok_getR 53 rfl rfl fl_X12_36 rfl rfl (ok_iload 54 rfl rfl rfl (ok_iald 55 rfl rfl rfl (by first | omega | (simp [up_if]; omega) | (simp [up_if] at *; omega)) (ok_iload 56 rfl rfl rfl (ok_icmp_ne 57 116 rfl rfl rfl (fun h100 => ?_) (fun h100 => ?_))))))
              · refine ok_inc6 66 rfl rfl rfl (by first | omega | (simp [up_if]; omega) | (simp [up_if] at *; omega)) (ok_goto 67 84 rfl rfl rfl ?_)
                first | exact ih3 (k + 1) _ ⟨by omega, by omega, k3⟩ (by omega) | exact ih3 (k + 1) _ ⟨by omega, by omega, fr_up k3 rfl⟩ (by omega)
              · refine ok_aload_n 58 rfl rfl rfl (ok_getR 59 rfl rfl fl_X12_36 rfl rfl (ok_iload 60 rfl rfl rfl (ok_aload_n 61 rfl rfl rfl (ok_getR 62 rfl rfl fl_X12_36 rfl rfl (ok_iload_n 63 rfl rfl rfl (ok_iald 64 rfl rfl rfl (by first | omega | (simp [up_if]; omega) | (simp [up_if] at *; omega)) (ok_iast 65 rfl rfl rfl (by first | omega | (simp [up_if]; omega) | (simp [up_if] at *; omega)) (ok_inc6 66 rfl rfl rfl (by first | omega | (simp [up_if]; omega) | (simp [up_if] at *; omega)) (ok_goto 67 84 rfl rfl rfl ?_)))))))))
                first | exact ih3 (k + 1) _ ⟨by omega, by omega, k3⟩ (by omega) | exact ih3 (k + 1) _ ⟨by omega, by omega, fr_up k3 rfl⟩ (by omega)
          · refine ok_goto 46 122 rfl rfl rfl ?_
            exact back τ _ _ i3 (by omega)
  · refine ok_aload_n 10 rfl rfl rfl (ok_getR 11 rfl rfl fl_X12_36 rfl rfl (ok_iload_n 12 rfl rfl rfl (ok_iload_n 13 rfl rfl rfl (ok_iast 14 rfl rfl rfl (by first | omega | (simp [up_if]; omega) | (simp [up_if] at *; omega)) (ok_inc3 15 rfl rfl rfl (by first | omega | (simp [up_if]; omega) | (simp [up_if] at *; omega)) (ok_goto 16 9 rfl rfl rfl ?_))))))
    exact ih (k + 1) _ ⟨by omega, by omega, fr_up i3 rfl⟩ (by omega)
def cntB (σ : eS) (s : Int) : Int := sm (fun k => if 0 < σ 3 (64 * s + k) then 1 else 0) (σ 1 s * σ 1 s).toNat
theorem s_Mo_aboveNought {σ : eS} {s : Int} (hB : iB1 σ) (hs : 0 ≤ s ∧ s < 4) : MtI shB M_Mo_aboveNought [vr 0, vi s] σ (fun σ' z => σ' = σ ∧ z = cntB σ s) := by
  refine Mt.of okM_Mo_aboveNought (Nat.le_of_ble_eq_true rfl) (fun hk hg => ?_)
  obtain ⟨n, en⟩ : ∃ x, x = σ 1 s := ⟨_, rfl⟩
  obtain ⟨g1, g2, -⟩ := hB.1 s hs.1 hs.2
  rw [← en] at g1 g2
  obtain ⟨q1, q2⟩ := sq8 ⟨g1, g2⟩
  refine ok_iconst 0 rfl rfl (by decide) (ok_ist2 1 rfl rfl rfl (ok_iconst 2 rfl rfl (by decide) (ok_ist3 3 rfl rfl rfl ?_)))
  refine lpO (fun k : Int => [some (vr 0), some (vi s), some (vi (sm (fun k => if 0 < σ 3 (64 * s + k) then 1 else 0) k.toNat)), some (vi k)]) (fun _ => σ) (fun k => 0 ≤ k ∧ k ≤ n * n) (fun k => (n * n - k).toNat) ?_ 0 ⟨by omega, by omega⟩
  rintro k ⟨k1, k2⟩ ih
  have hb := sm_bd (f := fun k => if 0 < σ 3 (64 * s + k) then 1 else 0) (B := 1) (by decide) (n := k.toNat) (fun k a b => by split <;> omega)
  refine ok_iload_n 4 rfl rfl rfl (ok_aload_n 5 rfl rfl rfl (ok_getR 6 rfl rfl fl_X12_7 rfl rfl (ok_iload_n 7 rfl rfl rfl (ok_iald 8 rfl rfl rfl (by first | omega | (simp [up_if]; omega) | (simp [up_if] at *; omega)) (ok_aload_n 9 rfl rfl rfl (ok_getR 10 rfl rfl fl_X12_7 rfl rfl (ok_iload_n 11 rfl rfl rfl (ok_iald 12 rfl rfl rfl (by first | omega | (simp [up_if]; omega) | (simp [up_if] at *; omega)) (ok_imul 13 rfl rfl (by rw [← en]; omega) ?_)))))))))
  rw [← en]
  refine ok_icmp_ge 14 52 rfl rfl rfl (fun h18 => ?_) (fun h18 => ?_)
  · refine ok_iload_n 33 rfl rfl rfl (ok_iret 34 rfl rfl rfl ?_)
    exact ⟨_, rfl, rfl, by unfold cntB; rw [← en, show k = n * n by omega]⟩
  · refine ok_iload_n 15 rfl rfl rfl (ok_aload_n 16 rfl rfl rfl (ok_getR 17 rfl rfl fl_X12_16 rfl rfl (ok_bipush 18 rfl rfl (by decide) (by decide) (ok_iload_n 19 rfl rfl rfl (ok_imul 20 rfl rfl (by first | omega | (simp [up_if]; omega) | (simp [up_if] at *; omega)) (ok_iload_n 21 rfl rfl rfl (ok_iadd 22 rfl rfl (by first | omega | (simp [up_if]; omega) | (simp [up_if] at *; omega)) (ok_iald 23 rfl rfl rfl (by first | omega | (simp [up_if]; omega) | (simp [up_if] at *; omega)) (ok_if_le 24 40 rfl rfl rfl (fun h33 => ?_) (fun h33 => ?_))))))))))
    · refine ok_iconst 27 rfl rfl (by decide) (ok_callSI (M' := M_Mo_one) (as := [_]) 28 rfl rfl ml_X12_192 (s_Mo_one) ⟨Nat.le_of_ble_eq_true rfl, Nat.le_of_ble_eq_true rfl⟩ rfl (Nat.le_of_ble_eq_true rfl) (fun σ' z1 hz1 => ?_))
      obtain ⟨hs_, hz1⟩ := hz1
      rw [hs_]; clear hs_ σ'
      have q3 : z1 = if 0 < σ 3 (64 * s + k) then 1 else 0 := by rw [hz1]; first | rw [if_pos (by omega), if_neg (by omega)] | rw [if_neg (by omega), if_pos (by omega)]
      have q4 : 0 ≤ z1 ∧ z1 ≤ 1 := by rw [q3]; split <;> omega
      refine ok_iadd 29 rfl rfl (by first | omega | (simp [up_if]; omega) | (simp [up_if] at *; omega)) (ok_ist2 30 rfl rfl rfl (ok_inc3 31 rfl rfl rfl (by first | omega | (simp [up_if]; omega) | (simp [up_if] at *; omega)) (ok_goto 32 4 rfl rfl rfl ?_)))
      have e := sm_s (fun k => if 0 < σ 3 (64 * s + k) then 1 else 0) k1
      rw [q3, ← e]
      exact ih (k + 1) ⟨by omega, by omega⟩ (by omega)
    · refine ok_iconst 25 rfl rfl (by decide) (ok_goto 26 41 rfl rfl rfl (ok_callSI (M' := M_Mo_one) (as := [_]) 28 rfl rfl ml_X12_192 (s_Mo_one) ⟨Nat.le_of_ble_eq_true rfl, Nat.le_of_ble_eq_true rfl⟩ rfl (Nat.le_of_ble_eq_true rfl) (fun σ' z1 hz1 => ?_)))
      obtain ⟨hs_, hz1⟩ := hz1
      rw [hs_]; clear hs_ σ'
      have q3 : z1 = if 0 < σ 3 (64 * s + k) then 1 else 0 := by rw [hz1]; first | rw [if_pos (by omega), if_neg (by omega)] | rw [if_neg (by omega), if_pos (by omega)]
      have q4 : 0 ≤ z1 ∧ z1 ≤ 1 := by rw [q3]; split <;> omega
      refine ok_iadd 29 rfl rfl (by first | omega | (simp [up_if]; omega) | (simp [up_if] at *; omega)) (ok_ist2 30 rfl rfl rfl (ok_inc3 31 rfl rfl rfl (by first | omega | (simp [up_if]; omega) | (simp [up_if] at *; omega)) (ok_goto 32 4 rfl rfl rfl ?_)))
      have e := sm_s (fun k => if 0 < σ 3 (64 * s + k) then 1 else 0) k1
      rw [q3, ← e]
      exact ih (k + 1) ⟨by omega, by omega⟩ (by omega)
theorem s_Mo_look {σ : eS} {s w : Int} (hB : iB1 σ) : MtI shB M_Mo_look [vr 0, vi s, vi w] σ (fun σ' z => fr (fun c _ => c = 8) σ σ') := by
  refine Mt.of okM_Mo_look (Nat.le_of_ble_eq_true rfl) (fun hk hg => ?_)
  by_cases hs : 0 ≤ s ∧ s < 4
  · obtain ⟨n, en⟩ : ∃ x, x = σ 1 s := ⟨_, rfl⟩
    obtain ⟨g1, g2, -⟩ := hB.1 s hs.1 hs.2
    rw [← en] at g1 g2
    obtain ⟨q1, q2⟩ := sq8 ⟨g1, g2⟩
    refine ok_iload_n 0 rfl rfl rfl (ok_callSI (M' := M_Mo_isSlot) (as := [_]) 1 rfl rfl ml_X12_103 (s_Mo_isSlot_y hs) ⟨Nat.le_of_ble_eq_true rfl, Nat.le_of_ble_eq_true rfl⟩ rfl (Nat.le_of_ble_eq_true rfl) (fun σ' z hz => ?_))
    rw [hz.1, hz.2]
    clear hz z σ'
    refine ok_if_ne 2 10 rfl rfl rfl (fun h4 => ?_) (fun h4 => ?_)
    · refine ok_iconst 5 rfl rfl (by decide) (ok_ist3 6 rfl rfl rfl (ok_iconst 7 rfl rfl (by decide) (ok_ist4 8 rfl rfl rfl ?_)))
      refine lpO2 (fun m k : Int => [some (vr 0), some (vi s), some (vi w), some (vi m), some (vi k)]) (fun _ _ => σ) (fun _ k => 0 ≤ k ∧ k ≤ n * n) (fun _ k => (n * n - k).toNat) ?_ 0 0 ⟨by omega, by omega⟩
      rintro m k ⟨k1, k2⟩ ih
      refine ok_iload 9 rfl rfl rfl (ok_aload_n 10 rfl rfl rfl (ok_getR 11 rfl rfl fl_X12_7 rfl rfl (ok_iload_n 12 rfl rfl rfl (ok_iald 13 rfl rfl rfl (by first | omega | (simp [up_if]; omega) | (simp [up_if] at *; omega)) (ok_aload_n 14 rfl rfl rfl (ok_getR 15 rfl rfl fl_X12_7 rfl rfl (ok_iload_n 16 rfl rfl rfl (ok_iald 17 rfl rfl rfl (by first | omega | (simp [up_if]; omega) | (simp [up_if] at *; omega)) (ok_imul 18 rfl rfl (by rw [← en]; omega) ?_)))))))))
      rw [← en]
      refine ok_icmp_ge 19 56 rfl rfl rfl (fun h30 => ?_) (fun h30 => ?_)
      · have hw : w = 0 ∨ w = 1 ∨ w = 2 ∨ w = 3 ∨ w = 4 ∨ w = 5 ∨ (w < 0 ∨ 5 < w) := by omega
        refine ok_iload_n 33 rfl rfl rfl ?_
        rcases hw with rfl | rfl | rfl | rfl | rfl | rfl | hw
        · refine ok_tin (len := 39) 34 96 rfl rfl (by omega) (by omega) rfl rfl ?_
          refine ok_aload_n 35 rfl rfl rfl (ok_getR 36 rfl rfl fl_X12_7 rfl rfl (ok_iload_n 37 rfl rfl rfl (ok_iald 38 rfl rfl rfl (by first | omega | (simp [up_if]; omega) | (simp [up_if] at *; omega)) (ok_iret 39 rfl rfl rfl ?_))))
          exact ⟨_, rfl, fr.rf⟩
        · refine ok_tin (len := 39) 34 103 rfl rfl (by omega) (by omega) rfl rfl ?_
          refine ok_aload_n 40 rfl rfl rfl (ok_getR 41 rfl rfl fl_X12_13 rfl rfl (ok_iload_n 42 rfl rfl rfl (ok_iald 43 rfl rfl rfl (by first | omega | (simp [up_if]; omega) | (simp [up_if] at *; omega)) (ok_iret 44 rfl rfl rfl ?_))))
          exact ⟨_, rfl, fr.rf⟩
        · refine ok_tin (len := 39) 34 110 rfl rfl (by omega) (by omega) rfl rfl ?_
          refine ok_aload_n 45 rfl rfl rfl (ok_iload_n 46 rfl rfl rfl (ok_callVI (M' := M_Mo_isEven) (as := [_]) 47 rfl rfl ml_X12_202 (s_Mo_isEven hB) rfl rfl (Nat.le_of_ble_eq_true rfl) ⟨Nat.le_of_ble_eq_true rfl, Nat.le_of_ble_eq_true rfl⟩ rfl (Nat.le_of_ble_eq_true rfl) (fun σ' z hz => ?_)))
          obtain ⟨hs_, hz⟩ := hz
          rw [hs_]; clear hs_ σ'
          refine ok_if_eq 48 128 rfl rfl rfl (fun h115 => ?_) (fun h115 => ?_)
          · refine ok_iconst 55 rfl rfl (by decide) (ok_iret 56 rfl rfl rfl ?_)
            exact ⟨_, rfl, fr.rf⟩
          · have hr : evB σ s := by
              rcases hz with q | q
              · exact q.2
              · omega
            have hb := rowB_bd hB hs (i := 0) ⟨by omega, hr.1.2.2⟩
            refine ok_aload_n 49 rfl rfl rfl (ok_iload_n 50 rfl rfl rfl (ok_iconst 51 rfl rfl (by decide) (ok_callVL (M' := M_Mo_rowOf) (as := [_, _]) 52 rfl rfl ml_X12_114 (s_Mo_rowOf hB hs ⟨by omega, hr.1.2.2⟩) rfl rfl (Nat.le_of_ble_eq_true rfl) ⟨Nat.le_of_ble_eq_true rfl, Nat.le_of_ble_eq_true rfl⟩ rfl (Nat.le_of_ble_eq_true rfl) (fun σ' z hz => ?_))))
            rw [hz.1, hz.2]
            clear hz z σ'
            refine ok_l2i 53 rfl rfl (by first | omega | (simp [up_if]; omega) | (simp [up_if] at *; omega)) (ok_goto 54 129 rfl rfl rfl (ok_iret 56 rfl rfl rfl ?_))
            exact ⟨_, rfl, fr.rf⟩
        · refine ok_tin (len := 39) 34 130 rfl rfl (by omega) (by omega) rfl rfl ?_
          refine ok_aload_n 57 rfl rfl rfl (ok_iload_n 58 rfl rfl rfl (ok_callVI (M' := M_Mo_aboveNought) (as := [_]) 59 rfl rfl ml_X12_205 (s_Mo_aboveNought hB hs) rfl rfl (Nat.le_of_ble_eq_true rfl) ⟨Nat.le_of_ble_eq_true rfl, Nat.le_of_ble_eq_true rfl⟩ rfl (Nat.le_of_ble_eq_true rfl) (fun σ' z hz => ?_)))
          rw [hz.1, hz.2]
          clear hz z σ'
          refine ok_iret 60 rfl rfl rfl ?_
          exact ⟨_, rfl, fr.rf⟩
        · refine ok_tin (len := 39) 34 136 rfl rfl (by omega) (by omega) rfl rfl ?_
          refine ok_iload_n 61 rfl rfl rfl (ok_iret 62 rfl rfl rfl ?_)
          exact ⟨_, rfl, fr.rf⟩
        · refine ok_tin (len := 39) 34 138 rfl rfl (by omega) (by omega) rfl rfl ?_
          refine ok_aload_n 63 rfl rfl rfl (ok_iload_n 64 rfl rfl rfl (ok_callVI (M' := M_Mo_groupsOf) (as := [_]) 65 rfl rfl ml_X12_208 (s_Mo_groupsOf hB hs) rfl rfl (Nat.le_of_ble_eq_true rfl) ⟨Nat.le_of_ble_eq_true rfl, Nat.le_of_ble_eq_true rfl⟩ rfl (Nat.le_of_ble_eq_true rfl) (fun σ' z hz => ?_)))
          refine ok_iret 66 rfl rfl rfl ?_
          exact ⟨_, rfl, hz.1⟩
        · refine ok_tout (len := 39) 34 144 rfl rfl hw rfl ?_
          refine ok_bipush 67 rfl rfl (by decide) (by decide) (ok_iret 68 rfl rfl rfl ?_)
          exact ⟨_, rfl, fr.rf⟩
      · refine ok_iload_n 20 rfl rfl rfl (ok_aload_n 21 rfl rfl rfl (ok_getR 22 rfl rfl fl_X12_16 rfl rfl (ok_bipush 23 rfl rfl (by decide) (by decide) (ok_iload_n 24 rfl rfl rfl (ok_imul 25 rfl rfl (by first | omega | (simp [up_if]; omega) | (simp [up_if] at *; omega)) (ok_iload 26 rfl rfl rfl (ok_iadd 27 rfl rfl (by first | omega | (simp [up_if]; omega) | (simp [up_if] at *; omega)) (ok_iald 28 rfl rfl rfl (by first | omega | (simp [up_if]; omega) | (simp [up_if] at *; omega)) (ok_mmax 29 rfl rfl ml_X12_196 ⟨Nat.le_of_ble_eq_true rfl, Nat.le_of_ble_eq_true rfl⟩ (ok_ist3 30 rfl rfl rfl (ok_inc4 31 rfl rfl rfl (by first | omega | (simp [up_if]; omega) | (simp [up_if] at *; omega)) (ok_goto 32 15 rfl rfl rfl ?_))))))))))))
        exact ih _ (k + 1) ⟨by omega, by omega⟩ (by omega)
    · omega
  · refine ok_iload_n 0 rfl rfl rfl (ok_callSI (M' := M_Mo_isSlot) (as := [_]) 1 rfl rfl ml_X12_103 (s_Mo_isSlot_n hs) ⟨Nat.le_of_ble_eq_true rfl, Nat.le_of_ble_eq_true rfl⟩ rfl (Nat.le_of_ble_eq_true rfl) (fun σ' z hz => ?_))
    rw [hz.1, hz.2]
    clear hz z σ'
    refine ok_if_ne 2 10 rfl rfl rfl (fun h4 => ?_) (fun h4 => ?_)
    · omega
    · refine ok_bipush 3 rfl rfl (by decide) (by decide) (ok_iret 4 rfl rfl rfl ?_)
      exact ⟨_, rfl, fr.rf⟩
def celB (σ : eS) (s i j : Int) : Prop := tabB σ s ∧ 0 ≤ i ∧ i < σ 1 s ∧ 0 ≤ j ∧ j < σ 1 s
theorem s_Mo_isCell {σ : eS} {s i j : Int} (hB : iB1 σ) : MtI shB M_Mo_isCell [vr 0, vi s, vi i, vi j] σ (fun σ' z => σ' = σ ∧ ((z = 1 ∧ celB σ s i j) ∨ (z = 0 ∧ ¬ celB σ s i j))) := by
  refine Mt.of okM_Mo_isCell (Nat.le_of_ble_eq_true rfl) (fun hk hg => ?_)
  by_cases ht : tabB σ s
  · obtain ⟨t1, t2, t3⟩ := id ht
    obtain ⟨g1, g2, -⟩ := hB.1 s t1 t2
    refine ok_aload_n 0 rfl rfl rfl (ok_iload_n 1 rfl rfl rfl (ok_callVI (M' := M_Mo_isTable) (as := [_]) 2 rfl rfl ml_X12_111 (s_Mo_isTable_y ht) rfl rfl (Nat.le_of_ble_eq_true rfl) ⟨Nat.le_of_ble_eq_true rfl, Nat.le_of_ble_eq_true rfl⟩ rfl (Nat.le_of_ble_eq_true rfl) (fun σ' z hz => ?_)))
    rw [hz.1, hz.2]
    clear hz z σ'
    refine ok_if_eq 3 48 rfl rfl rfl (fun h5 => ?_) (fun h5 => ?_)
    · omega
    · refine ok_iload_n 4 rfl rfl rfl (ok_i2l 5 rfl rfl (ok_lconst (w := 0) 6 rfl rfl rfl (by decide) (ok_aload_n 7 rfl rfl rfl (ok_getR 8 rfl rfl fl_X12_7 rfl rfl (ok_iload_n 9 rfl rfl rfl (ok_iald 10 rfl rfl rfl (by first | omega | (simp [up_if]; omega) | (simp [up_if] at *; omega)) (ok_iconst 11 rfl rfl (by decide) (ok_isub 12 rfl rfl (by first | omega | (simp [up_if]; omega) | (simp [up_if] at *; omega)) (ok_i2l 13 rfl rfl (ok_callSI (M' := M_Mo_isIn) (as := [_, _, _]) 14 rfl rfl ml_X12_99 (s_Mo_isIn) ⟨Nat.le_of_ble_eq_true rfl, Nat.le_of_ble_eq_true rfl⟩ rfl (Nat.le_of_ble_eq_true rfl) (fun σ' z1 h1 => ?_)))))))))))
      obtain ⟨hs_, h1⟩ := h1
      rw [hs_]; clear hs_ σ'
      refine ok_if_eq 15 48 rfl rfl rfl (fun h23 => ?_) (fun h23 => ?_)
      · refine ok_iconst 30 rfl rfl (by decide) (ok_zret 31 rfl rfl rfl (by first | omega | (simp [up_if]; omega) | (simp [up_if] at *; omega)) ?_)
        refine ⟨_, rfl, rfl, ?_⟩
        unfold celB
        simp only [ht, true_and]
        first | (split at h1 <;> split at h2 <;> omega) | (split at h1 <;> omega)
      · refine ok_iload_n 16 rfl rfl rfl (ok_i2l 17 rfl rfl (ok_lconst (w := 0) 18 rfl rfl rfl (by decide) (ok_aload_n 19 rfl rfl rfl (ok_getR 20 rfl rfl fl_X12_7 rfl rfl (ok_iload_n 21 rfl rfl rfl (ok_iald 22 rfl rfl rfl (by first | omega | (simp [up_if]; omega) | (simp [up_if] at *; omega)) (ok_iconst 23 rfl rfl (by decide) (ok_isub 24 rfl rfl (by first | omega | (simp [up_if]; omega) | (simp [up_if] at *; omega)) (ok_i2l 25 rfl rfl (ok_callSI (M' := M_Mo_isIn) (as := [_, _, _]) 26 rfl rfl ml_X12_99 (s_Mo_isIn) ⟨Nat.le_of_ble_eq_true rfl, Nat.le_of_ble_eq_true rfl⟩ rfl (Nat.le_of_ble_eq_true rfl) (fun σ' z2 h2 => ?_)))))))))))
        obtain ⟨hs_, h2⟩ := h2
        rw [hs_]; clear hs_ σ'
        refine ok_if_eq 27 48 rfl rfl rfl (fun h41 => ?_) (fun h41 => ?_)
        · refine ok_iconst 30 rfl rfl (by decide) (ok_zret 31 rfl rfl rfl (by first | omega | (simp [up_if]; omega) | (simp [up_if] at *; omega)) ?_)
          refine ⟨_, rfl, rfl, ?_⟩
          unfold celB
          simp only [ht, true_and]
          first | (split at h1 <;> split at h2 <;> omega) | (split at h1 <;> omega)
        · refine ok_iconst 28 rfl rfl (by decide) (ok_goto 29 49 rfl rfl rfl (ok_zret 31 rfl rfl rfl (by first | omega | (simp [up_if]; omega) | (simp [up_if] at *; omega)) ?_))
          refine ⟨_, rfl, rfl, ?_⟩
          unfold celB
          simp only [ht, true_and]
          first | (split at h1 <;> split at h2 <;> omega) | (split at h1 <;> omega)
  · refine ok_aload_n 0 rfl rfl rfl (ok_iload_n 1 rfl rfl rfl (ok_callVI (M' := M_Mo_isTable) (as := [_]) 2 rfl rfl ml_X12_111 (s_Mo_isTable_n ht) rfl rfl (Nat.le_of_ble_eq_true rfl) ⟨Nat.le_of_ble_eq_true rfl, Nat.le_of_ble_eq_true rfl⟩ rfl (Nat.le_of_ble_eq_true rfl) (fun σ' z hz => ?_)))
    rw [hz.1, hz.2]
    clear hz z σ'
    refine ok_if_eq 3 48 rfl rfl rfl (fun h5 => ?_) (fun h5 => ?_)
    · refine ok_iconst 30 rfl rfl (by decide) (ok_zret 31 rfl rfl rfl (by first | omega | (simp [up_if]; omega) | (simp [up_if] at *; omega)) ?_)
      exact ⟨_, rfl, rfl, Or.inr ⟨rfl, fun q => ht q.1⟩⟩
    · omega
theorem s_Mo_cell {σ : eS} {s i j : Int} (hB : iB1 σ) : MtI shB M_Mo_cell [vr 0, vi s, vi i, vi j] σ (fun σ' z => σ' = σ ∧ ((celB σ s i j ∧ z = cB σ s i j) ∨ (¬ celB σ s i j ∧ z = -1))) := by
  refine Mt.of okM_Mo_cell (Nat.le_of_ble_eq_true rfl) (fun hk hg => ?_)
  refine ok_aload_n 0 rfl rfl rfl (ok_iload_n 1 rfl rfl rfl (ok_iload_n 2 rfl rfl rfl (ok_iload_n 3 rfl rfl rfl (ok_callVI (M' := M_Mo_isCell) (as := [_, _, _]) 4 rfl rfl ml_X12_211 (s_Mo_isCell hB) rfl rfl (Nat.le_of_ble_eq_true rfl) ⟨Nat.le_of_ble_eq_true rfl, Nat.le_of_ble_eq_true rfl⟩ rfl (Nat.le_of_ble_eq_true rfl) (fun σ' z hz => ?_)))))
  obtain ⟨hs_, hz⟩ := hz
  rw [hs_]; clear hs_ σ'
  refine ok_if_eq 5 20 rfl rfl rfl (fun h7 => ?_) (fun h7 => ?_)
  · refine ok_iconst 12 rfl rfl (by decide) (ok_iret 13 rfl rfl rfl ?_)
    first | exact ⟨_, rfl, rfl, Or.inl ⟨hc, rfl⟩⟩ | (rcases hz with q | q; exact absurd h7 (by omega); exact ⟨_, rfl, rfl, Or.inr ⟨q.2, rfl⟩⟩)
  · have hc : celB σ s i j := by
      rcases hz with q | q
      · exact q.2
      · omega
    refine ok_aload_n 6 rfl rfl rfl (ok_iload_n 7 rfl rfl rfl (ok_iload_n 8 rfl rfl rfl (ok_iload_n 9 rfl rfl rfl (ok_callVI (M' := M_Mo_at) (as := [_, _, _]) 10 rfl rfl ml_X12_107 (s_Mo_at hB ⟨hc.1.1, hc.1.2.1⟩ ⟨hc.2.1, hc.2.2.1⟩ hc.2.2.2) rfl rfl (Nat.le_of_ble_eq_true rfl) ⟨Nat.le_of_ble_eq_true rfl, Nat.le_of_ble_eq_true rfl⟩ rfl (Nat.le_of_ble_eq_true rfl) (fun σ' z hz => ?_)))))
    rw [hz.1, hz.2]
    clear hz z σ'
    refine ok_goto 11 21 rfl rfl rfl (ok_iret 13 rfl rfl rfl ?_)
    first | exact ⟨_, rfl, rfl, Or.inl ⟨hc, rfl⟩⟩ | (rcases hz with q | q; exact absurd h7 (by omega); exact ⟨_, rfl, rfl, Or.inr ⟨q.2, rfl⟩⟩)
end
