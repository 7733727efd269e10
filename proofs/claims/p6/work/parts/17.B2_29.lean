section
theorem lt_ext {P : Int → Prop} {a i : Int} (h : ∀ k, a ≤ k → k < i → P k) (hi : P i) : ∀ k, a ≤ k → k < i + 1 → P k := fun k h1 h2 => by
  by_cases q : k = i
  · rw [q]; exact hi
  · exact h k h1 (by omega)
def unev (row col : Int → Int) (n z : Int) : Prop :=
  (∃ i, 1 ≤ i ∧ i < n ∧ z = i ∧ row i ≠ row 0 ∧ ∀ k, 1 ≤ k → k < i → row k = row 0) ∨
  ((∀ k, 1 ≤ k → k < n → row k = row 0) ∧ ((∃ j, 0 ≤ j ∧ j < n ∧ z = 8 + j ∧ col j ≠ row 0 ∧ ∀ k, 0 ≤ k → k < j → col k = row 0) ∨ (z = -1 ∧ ∀ k, 0 ≤ k → k < n → col k = row 0)))
theorem s_Mo_uneven {σ : eS} {s : Int} (hB : iB1 σ) : MtI shB M_Mo_uneven [vr 0, vi s] σ (fun σ' z => σ' = σ ∧ ((¬ tabB σ s ∧ z = -1) ∨ (tabB σ s ∧ unev (rowB σ s) (colB σ s) (σ 1 s) z))) := by
  refine Mt.of okM_Mo_uneven (Nat.le_of_ble_eq_true rfl) (fun hk hg => ?_)
  by_cases ht : tabB σ s
  · obtain ⟨t1, t2, t3⟩ := id ht
    obtain ⟨g1, g2, -⟩ := hB.1 s t1 t2
    refine ok_aload_n 0 rfl rfl rfl (ok_iload_n 1 rfl rfl rfl (ok_callVI (M' := M_Mo_isTable) (as := [_]) 2 rfl rfl ml_X12_111 (s_Mo_isTable_y ht) rfl rfl (Nat.le_of_ble_eq_true rfl) ⟨Nat.le_of_ble_eq_true rfl, Nat.le_of_ble_eq_true rfl⟩ rfl (Nat.le_of_ble_eq_true rfl) (fun σ' z hz => ?_)))
    rw [hz.1, hz.2]
    clear hz z σ'
    refine ok_if_ne 3 10 rfl rfl rfl (fun h5 => ?_) (fun h5 => ?_)
    · refine ok_iconst 6 rfl rfl (by decide) (ok_ist2 7 rfl rfl rfl ?_)
      refine lpO (fun q : Int => [some (vr 0), some (vi s), some (vi q)]) (fun _ => σ) (fun q => 1 ≤ q ∧ q ≤ σ 1 s ∧ ∀ k, 1 ≤ k → k < q → rowB σ s k = rowB σ s 0) (fun q => (σ 1 s - q).toNat) ?_ 1 ⟨by omega, by omega, fun k a b => by omega⟩
      rintro i ⟨h1, h2, h3⟩ ih
      refine ok_iload_n 8 rfl rfl rfl (ok_aload_n 9 rfl rfl rfl (ok_getR 10 rfl rfl fl_X12_7 rfl rfl (ok_iload_n 11 rfl rfl rfl (ok_iald 12 rfl rfl rfl (by first | omega | (simp [up_if]; omega) | (simp [up_if] at *; omega)) (ok_icmp_ge 13 46 rfl rfl rfl (fun h19 => ?_) (fun h19 => ?_))))))
      · refine ok_iconst 28 rfl rfl (by decide) (ok_ist2 29 rfl rfl rfl ?_)
        have hr : ∀ k, 1 ≤ k → k < σ 1 s → rowB σ s k = rowB σ s 0 := fun k a b => h3 k a (by omega)
        refine lpO (fun q : Int => [some (vr 0), some (vi s), some (vi q)]) (fun _ => σ) (fun q => 0 ≤ q ∧ q ≤ σ 1 s ∧ ∀ k, 0 ≤ k → k < q → colB σ s k = rowB σ s 0) (fun q => (σ 1 s - q).toNat) ?_ 0 ⟨by omega, by omega, fun k a b => by omega⟩
        rintro j ⟨h1, h2, h3⟩ ih
        refine ok_iload_n 30 rfl rfl rfl (ok_aload_n 31 rfl rfl rfl (ok_getR 32 rfl rfl fl_X12_7 rfl rfl (ok_iload_n 33 rfl rfl rfl (ok_iald 34 rfl rfl rfl (by first | omega | (simp [up_if]; omega) | (simp [up_if] at *; omega)) (ok_icmp_ge 35 85 rfl rfl rfl (fun h55 => ?_) (fun h55 => ?_))))))
        · refine ok_iconst 52 rfl rfl (by decide) (ok_iret 53 rfl rfl rfl ?_)
          exact ⟨_, rfl, rfl, Or.inr ⟨ht, Or.inr ⟨hr, Or.inr ⟨rfl, fun k a b => h3 k a (by omega)⟩⟩⟩⟩
        · refine ok_aload_n 36 rfl rfl rfl (ok_iload_n 37 rfl rfl rfl (ok_iload_n 38 rfl rfl rfl (ok_callVL (M' := M_Mo_columnOf) (as := [_, _]) 39 rfl rfl ml_X12_122 (s_Mo_columnOf hB ⟨t1, t2⟩ ⟨by omega, by omega⟩) rfl rfl (Nat.le_of_ble_eq_true rfl) ⟨Nat.le_of_ble_eq_true rfl, Nat.le_of_ble_eq_true rfl⟩ rfl (Nat.le_of_ble_eq_true rfl) (fun σ' z hz => ?_))))
          rw [hz.1, hz.2]
          clear hz z σ'
          refine ok_aload_n 40 rfl rfl rfl (ok_iload_n 41 rfl rfl rfl (ok_iconst 42 rfl rfl (by decide) (ok_callVL (M' := M_Mo_rowOf) (as := [_, _]) 43 rfl rfl ml_X12_114 (s_Mo_rowOf hB ⟨t1, t2⟩ ⟨by omega, by omega⟩) rfl rfl (Nat.le_of_ble_eq_true rfl) ⟨Nat.le_of_ble_eq_true rfl, Nat.le_of_ble_eq_true rfl⟩ rfl (Nat.le_of_ble_eq_true rfl) (fun σ' z hz => ?_))))
          rw [hz.1, hz.2]
          clear hz z σ'
          refine ok_lcmp_eq 44 45 79 rfl rfl rfl rfl rfl (fun h70 => ?_) (fun h70 => ?_)
          · refine ok_inc2 50 rfl rfl rfl (by first | omega | (simp [up_if]; omega) | (simp [up_if] at *; omega)) (ok_goto 51 48 rfl rfl rfl ?_)
            exact ih (j + 1) ⟨by omega, by omega, lt_ext h3 h70⟩ (by omega)
          · refine ok_bipush 46 rfl rfl (by decide) (by decide) (ok_iload_n 47 rfl rfl rfl (ok_iadd 48 rfl rfl (by first | omega | (simp [up_if]; omega) | (simp [up_if] at *; omega)) (ok_iret 49 rfl rfl rfl ?_)))
            exact ⟨_, rfl, rfl, Or.inr ⟨ht, Or.inr ⟨hr, Or.inl ⟨j, h1, by omega, rfl, h70, h3⟩⟩⟩⟩
      · refine ok_aload_n 14 rfl rfl rfl (ok_iload_n 15 rfl rfl rfl (ok_iload_n 16 rfl rfl rfl (ok_callVL (M' := M_Mo_rowOf) (as := [_, _]) 17 rfl rfl ml_X12_114 (s_Mo_rowOf hB ⟨t1, t2⟩ ⟨by omega, by omega⟩) rfl rfl (Nat.le_of_ble_eq_true rfl) ⟨Nat.le_of_ble_eq_true rfl, Nat.le_of_ble_eq_true rfl⟩ rfl (Nat.le_of_ble_eq_true rfl) (fun σ' z hz => ?_))))
        rw [hz.1, hz.2]
        clear hz z σ'
        refine ok_aload_n 18 rfl rfl rfl (ok_iload_n 19 rfl rfl rfl (ok_iconst 20 rfl rfl (by decide) (ok_callVL (M' := M_Mo_rowOf) (as := [_, _]) 21 rfl rfl ml_X12_114 (s_Mo_rowOf hB ⟨t1, t2⟩ ⟨by omega, by omega⟩) rfl rfl (Nat.le_of_ble_eq_true rfl) ⟨Nat.le_of_ble_eq_true rfl, Nat.le_of_ble_eq_true rfl⟩ rfl (Nat.le_of_ble_eq_true rfl) (fun σ' z hz => ?_))))
        rw [hz.1, hz.2]
        clear hz z σ'
        refine ok_lcmp_eq 22 23 40 rfl rfl rfl rfl rfl (fun h34 => ?_) (fun h34 => ?_)
        · refine ok_inc2 26 rfl rfl rfl (by first | omega | (simp [up_if]; omega) | (simp [up_if] at *; omega)) (ok_goto 27 12 rfl rfl rfl ?_)
          exact ih (i + 1) ⟨by omega, by omega, lt_ext h3 h34⟩ (by omega)
        · refine ok_iload_n 24 rfl rfl rfl (ok_iret 25 rfl rfl rfl ?_)
          exact ⟨_, rfl, rfl, Or.inr ⟨ht, Or.inl ⟨i, h1, by omega, rfl, h34, h3⟩⟩⟩
    · omega
  · refine ok_aload_n 0 rfl rfl rfl (ok_iload_n 1 rfl rfl rfl (ok_callVI (M' := M_Mo_isTable) (as := [_]) 2 rfl rfl ml_X12_111 (s_Mo_isTable_n ht) rfl rfl (Nat.le_of_ble_eq_true rfl) ⟨Nat.le_of_ble_eq_true rfl, Nat.le_of_ble_eq_true rfl⟩ rfl (Nat.le_of_ble_eq_true rfl) (fun σ' z hz => ?_)))
    rw [hz.1, hz.2]
    clear hz z σ'
    refine ok_if_ne 3 10 rfl rfl rfl (fun h5 => ?_) (fun h5 => ?_)
    · omega
    · refine ok_iconst 4 rfl rfl (by decide) (ok_iret 5 rfl rfl rfl ?_)
      exact ⟨_, rfl, rfl, Or.inl ⟨ht, rfl⟩⟩
def evB (σ : eS) (s : Int) : Prop := tabB σ s ∧ 0 < rowB σ s 0 ∧ (∀ k, 0 ≤ k → k < σ 1 s → rowB σ s k = rowB σ s 0) ∧ (∀ k, 0 ≤ k → k < σ 1 s → colB σ s k = rowB σ s 0)
theorem unev_m1 {row col : Int → Int} {n z : Int} (h : unev row col n z) : z = -1 ↔ ((∀ k, 0 ≤ k → k < n → row k = row 0) ∧ ∀ k, 0 ≤ k → k < n → col k = row 0) := by
  rcases h with ⟨i, h1, h2, rfl, h4, h5⟩ | ⟨h1, ⟨j, h2, h3, rfl, h5, h6⟩ | ⟨rfl, h3⟩⟩
  · exact ⟨fun q => by omega, fun q => absurd (q.1 z (by omega) h2) h4⟩
  · exact ⟨fun q => by omega, fun q => absurd (q.2 j h2 h3) h5⟩
  · refine ⟨fun _ => ⟨fun k a b => ?_, h3⟩, fun _ => rfl⟩
    by_cases q : k = 0
    · rw [q]
    · exact h1 k (by omega) b
theorem s_Mo_isEven {σ : eS} {s : Int} (hB : iB1 σ) : MtI shB M_Mo_isEven [vr 0, vi s] σ (fun σ' z => σ' = σ ∧ ((z = 1 ∧ evB σ s) ∨ (z = 0 ∧ ¬ evB σ s))) := by
  refine Mt.of okM_Mo_isEven (Nat.le_of_ble_eq_true rfl) (fun hk hg => ?_)
  by_cases ht : tabB σ s
  · obtain ⟨t1, t2, t3⟩ := id ht
    refine ok_aload_n 0 rfl rfl rfl (ok_iload_n 1 rfl rfl rfl (ok_callVI (M' := M_Mo_isTable) (as := [_]) 2 rfl rfl ml_X12_111 (s_Mo_isTable_y ht) rfl rfl (Nat.le_of_ble_eq_true rfl) ⟨Nat.le_of_ble_eq_true rfl, Nat.le_of_ble_eq_true rfl⟩ rfl (Nat.le_of_ble_eq_true rfl) (fun σ' z hz => ?_)))
    rw [hz.1, hz.2]
    clear hz z σ'
    refine ok_if_eq 3 32 rfl rfl rfl (fun h5 => ?_) (fun h5 => ?_)
    · omega
    · refine ok_aload_n 4 rfl rfl rfl (ok_iload_n 5 rfl rfl rfl (ok_iconst 6 rfl rfl (by decide) (ok_callVL (M' := M_Mo_rowOf) (as := [_, _]) 7 rfl rfl ml_X12_114 (s_Mo_rowOf hB ⟨t1, t2⟩ ⟨by omega, by omega⟩) rfl rfl (Nat.le_of_ble_eq_true rfl) ⟨Nat.le_of_ble_eq_true rfl, Nat.le_of_ble_eq_true rfl⟩ rfl (Nat.le_of_ble_eq_true rfl) (fun σ' z hz => ?_))))
      rw [hz.1, hz.2]
      clear hz z σ'
      refine ok_lconst (w := 0) 8 rfl rfl rfl (by decide) (ok_lcmp_le 9 10 32 rfl rfl rfl rfl rfl (fun h15 => ?_) (fun h15 => ?_))
      · refine ok_iconst 18 rfl rfl (by decide) (ok_zret 19 rfl rfl rfl (by omega) ?_)
        exact ⟨_, rfl, rfl, Or.inr ⟨rfl, fun q => by have := q.2.1; omega⟩⟩
      · refine ok_aload_n 11 rfl rfl rfl (ok_iload_n 12 rfl rfl rfl (ok_callVI (M' := M_Mo_uneven) (as := [_]) 13 rfl rfl ml_X12_118 (s_Mo_uneven hB) rfl rfl (Nat.le_of_ble_eq_true rfl) ⟨Nat.le_of_ble_eq_true rfl, Nat.le_of_ble_eq_true rfl⟩ rfl (Nat.le_of_ble_eq_true rfl) (fun σ' z hz => ?_)))
        obtain ⟨hs, hz⟩ := hz
        rw [hs]; clear hs σ'
        have hu : unev (rowB σ s) (colB σ s) (σ 1 s) z := by
          rcases hz with ⟨q, -⟩ | ⟨-, q⟩
          · exact absurd ht q
          · exact q
        have hm := unev_m1 hu
        refine ok_iconst 14 rfl rfl (by decide) (ok_icmp_ne 15 32 rfl rfl rfl (fun h25 => ?_) (fun h25 => ?_))
        · refine ok_iconst 18 rfl rfl (by decide) (ok_zret 19 rfl rfl rfl (by omega) ?_)
          exact ⟨_, rfl, rfl, Or.inr ⟨rfl, fun q => h25 (hm.mpr q.2.2)⟩⟩
        · refine ok_iconst 16 rfl rfl (by decide) (ok_goto 17 33 rfl rfl rfl (ok_zret 19 rfl rfl rfl (by first | omega | (simp [up_if]; omega) | (simp [up_if] at *; omega)) ?_))
          exact ⟨_, rfl, rfl, Or.inl ⟨rfl, ht, by omega, hm.mp h25⟩⟩
  · refine ok_aload_n 0 rfl rfl rfl (ok_iload_n 1 rfl rfl rfl (ok_callVI (M' := M_Mo_isTable) (as := [_]) 2 rfl rfl ml_X12_111 (s_Mo_isTable_n ht) rfl rfl (Nat.le_of_ble_eq_true rfl) ⟨Nat.le_of_ble_eq_true rfl, Nat.le_of_ble_eq_true rfl⟩ rfl (Nat.le_of_ble_eq_true rfl) (fun σ' z hz => ?_)))
    rw [hz.1, hz.2]
    clear hz z σ'
    refine ok_if_eq 3 32 rfl rfl rfl (fun h5 => ?_) (fun h5 => ?_)
    · refine ok_iconst 18 rfl rfl (by decide) (ok_zret 19 rfl rfl rfl (by first | omega | (simp [up_if]; omega) | (simp [up_if] at *; omega)) ?_)
      exact ⟨_, rfl, rfl, Or.inr ⟨rfl, fun q => ht q.1⟩⟩
    · omega
/-! the tape -/
def by4 (v k : Int) : Int := iand (ishr v (24 - 8 * k)) 255
def fo (σ : eS) (t v i : Int) : eS := fun c k => if c = 0 ∧ k = 6 then t + i else if c = 5 ∧ t ≤ k ∧ k < t + i then by4 v (k - t) else σ c k
theorem fo_0 {σ : eS} {t v : Int} (h : σ 0 6 = t) : fo σ t v 0 = σ := by
  funext c k
  unfold fo
  split
  · next q => rw [q.1, q.2]; omega
  · rw [if_neg (by omega)]
theorem fo_s {σ : eS} {t v i : Int} (h : 0 ≤ i) : up (up (fo σ t v i) 5 (t + i) (by4 v i)) 0 6 (t + i + 1) = fo σ t v (i + 1) := by
  funext c k
  simp only [up_if, fo]
  by_cases h1 : c = 0 ∧ k = 6
  · simp only [if_pos h1]
    omega
  · simp only [if_neg h1]
    by_cases h2 : c = 5 ∧ k = t + i
    · simp only [if_pos h2]
      rw [if_pos ⟨h2.1, by omega, by omega⟩, h2.2]
      congr 1
      omega
    · simp only [if_neg h2]
      by_cases h3 : c = 5 ∧ t ≤ k ∧ k < t + i
      · rw [if_pos h3, if_pos ⟨h3.1, by omega, by omega⟩]
      · rw [if_neg h3, if_neg (by omega)]
theorem fo_6 (σ : eS) (t v i : Int) : fo σ t v i 0 6 = t + i := by simp [fo]
theorem s_Mo_four {σ : eS} {v t : Int} (ht : σ 0 6 = t) (h0 : 0 ≤ t ∧ t ≤ 596) : MtV shB M_Mo_four [vr 0, vi v] σ (fun σ' => σ' = fo σ t v 4) := by
  refine Mt.of okM_Mo_four (Nat.le_of_ble_eq_true rfl) (fun hk hg => ?_)
  refine ok_bipush 0 rfl rfl (by decide) (by decide) (ok_ist2 1 rfl rfl rfl ?_)
  have e := fo_0 (v := v) ht
  suffices h : ∀ i : Int, 0 ≤ i ∧ i ≤ 4 → Ok shB M_Mo_four 3 [some (vr 0), some (vi v), some (vi (24 - 8 * i))] [] (fo σ t v i) (fun σ' w => w = none ∧ σ' = fo σ t v 4) by
    have := h 0 (by omega)
    rw [e] at this
    exact this
  refine fun i hi => lpO (fun i : Int => [some (vr 0), some (vi v), some (vi (24 - 8 * i))]) (fun i => fo σ t v i) (fun i => 0 ≤ i ∧ i ≤ 4) (fun i => (4 - i).toNat) ?_ i hi
  rintro i ⟨h1, h2⟩ ih
  have e6 := fo_6 σ t v i
  refine ok_iload_n 2 rfl rfl rfl (ok_if_lt 3 39 rfl rfl rfl (fun h4 => ?_) (fun h4 => ?_))
  · refine ok_vret 22 rfl rfl rfl ?_
    exact ⟨rfl, by rw [show i = 4 by omega]⟩
  · refine ok_aload_n 4 rfl rfl rfl (ok_getR 5 rfl rfl fl_X12_23 rfl rfl (ok_aload_n 6 rfl rfl rfl (ok_getI 7 rfl rfl fl_X12_125 rfl rfl (Or.inl rfl) (ok_iload_n 8 rfl rfl rfl (ok_iload_n 9 rfl rfl rfl (ok_ishr 10 rfl rfl (ok_sipush 11 rfl rfl (by decide) (by decide) (ok_iand 12 rfl rfl (ok_iast 13 rfl rfl rfl (by omega) (ok_aload_n 14 rfl rfl rfl (ok_dup 15 rfl rfl rfl (ok_getI 16 rfl rfl fl_X12_125 rfl rfl (Or.inl rfl) (ok_iconst 17 rfl rfl (by decide) (ok_iadd 18 rfl rfl (by rw [up_ne _ _ _ _ (by decide), e6]; omega) (ok_putI 19 rfl rfl fl_X12_125 rfl rfl rfl rfl (ok_inc2 20 rfl rfl rfl (by first | omega | (simp [up_if]; omega) | (simp [up_if] at *; omega)) (ok_goto 21 3 rfl rfl rfl ?_)))))))))))))))))
    have hh := ih (i + 1) ⟨by omega, by omega⟩ (by omega)
    rw [← fo_s h1] at hh
    rw [up_ne _ _ _ _ (by decide), e6]
    rw [show (24 : Int) - 8 * i + -8 = 24 - 8 * (i + 1) by omega]
    exact hh
def fd (σ : eS) (t a b c d e : Int) : eS := fo (fo (fo (fo (fo σ t a 4) (t + 4) b 4) (t + 8) c 4) (t + 12) d 4) (t + 16) e 4
theorem s_Mo_feed {σ : eS} {a b c d e : Int} (h0 : 0 ≤ σ 0 6 ∧ σ 0 6 ≤ 600) : MtI shB M_Mo_feed [vr 0, vi a, vi b, vi c, vi d, vi e] σ (fun σ' z => (σ 0 6 + 20 ≤ 600 ∧ σ' = fd σ (σ 0 6) a b c d e ∧ z = σ 0 6 + 20) ∨ (600 < σ 0 6 + 20 ∧ σ' = σ ∧ z = -1)) := by
  refine Mt.of okM_Mo_feed (Nat.le_of_ble_eq_true rfl) (fun hk hg => ?_)
  refine ok_aload_n 0 rfl rfl rfl (ok_getI 1 rfl rfl fl_X12_125 rfl rfl (Or.inl rfl) (ok_bipush 2 rfl rfl (by decide) (by decide) (ok_iadd 3 rfl rfl (by first | omega | (simp [up_if]; omega) | (simp [up_if] at *; omega)) (ok_sipush 4 rfl rfl (by decide) (by decide) (ok_icmp_le 5 15 rfl rfl rfl (fun h10 => ?_) (fun h10 => ?_))))))
  · refine ok_aload_n 8 rfl rfl rfl (ok_iload_n 9 rfl rfl rfl (ok_callVV (M' := M_Mo_four) (as := [_]) 10 rfl rfl ml_X12_128 (s_Mo_four rfl ⟨by omega, by omega⟩) rfl rfl (Nat.le_of_ble_eq_true rfl) ⟨Nat.le_of_ble_eq_true rfl, Nat.le_of_ble_eq_true rfl⟩ rfl (Nat.le_of_ble_eq_true rfl) (fun σ' hz => ?_)))
    rw [hz]
    clear hz σ'
    refine ok_aload_n 11 rfl rfl rfl (ok_iload_n 12 rfl rfl rfl (ok_callVV (M' := M_Mo_four) (as := [_]) 13 rfl rfl ml_X12_128 (s_Mo_four (t := σ 0 6 + 4) (fo_6 _ _ _ _) ⟨by omega, by omega⟩) rfl rfl (Nat.le_of_ble_eq_true rfl) ⟨Nat.le_of_ble_eq_true rfl, Nat.le_of_ble_eq_true rfl⟩ rfl (Nat.le_of_ble_eq_true rfl) (fun σ' hz => ?_)))
    rw [hz]
    clear hz σ'
    refine ok_aload_n 14 rfl rfl rfl (ok_iload_n 15 rfl rfl rfl (ok_callVV (M' := M_Mo_four) (as := [_]) 16 rfl rfl ml_X12_128 (s_Mo_four (t := σ 0 6 + 8) (by rw [fo_6]; omega) ⟨by omega, by omega⟩) rfl rfl (Nat.le_of_ble_eq_true rfl) ⟨Nat.le_of_ble_eq_true rfl, Nat.le_of_ble_eq_true rfl⟩ rfl (Nat.le_of_ble_eq_true rfl) (fun σ' hz => ?_)))
    rw [hz]
    clear hz σ'
    refine ok_aload_n 17 rfl rfl rfl (ok_iload 18 rfl rfl rfl (ok_callVV (M' := M_Mo_four) (as := [_]) 19 rfl rfl ml_X12_128 (s_Mo_four (t := σ 0 6 + 12) (by rw [fo_6]; omega) ⟨by omega, by omega⟩) rfl rfl (Nat.le_of_ble_eq_true rfl) ⟨Nat.le_of_ble_eq_true rfl, Nat.le_of_ble_eq_true rfl⟩ rfl (Nat.le_of_ble_eq_true rfl) (fun σ' hz => ?_)))
    rw [hz]
    clear hz σ'
    refine ok_aload_n 20 rfl rfl rfl (ok_iload 21 rfl rfl rfl (ok_callVV (M' := M_Mo_four) (as := [_]) 22 rfl rfl ml_X12_128 (s_Mo_four (t := σ 0 6 + 16) (by rw [fo_6]; omega) ⟨by omega, by omega⟩) rfl rfl (Nat.le_of_ble_eq_true rfl) ⟨Nat.le_of_ble_eq_true rfl, Nat.le_of_ble_eq_true rfl⟩ rfl (Nat.le_of_ble_eq_true rfl) (fun σ' hz => ?_)))
    rw [hz]
    clear hz σ'
    refine ok_aload_n 23 rfl rfl rfl (ok_getI 24 rfl rfl fl_X12_125 rfl rfl (Or.inl rfl) (ok_iret 25 rfl rfl rfl ?_))
    exact ⟨_, rfl, Or.inl ⟨by omega, rfl, by rw [fo_6]; omega⟩⟩
  · refine ok_iconst 6 rfl rfl (by decide) (ok_iret 7 rfl rfl rfl ?_)
    exact ⟨_, rfl, Or.inr ⟨by omega, rfl, rfl⟩⟩
theorem s_Mo_end {σ : eS} {n : Int} : MtI shB M_Mo_end [vr 0, vi n] σ (fun σ' z => (0 ≤ n ∧ n ≤ σ 0 6 ∧ σ' = up σ 0 6 n ∧ z = 1) ∨ (¬ (0 ≤ n ∧ n ≤ σ 0 6) ∧ σ' = σ ∧ z = 0)) := by
  refine Mt.of okM_Mo_end (Nat.le_of_ble_eq_true rfl) (fun hk hg => ?_)
  by_cases h : 0 ≤ n ∧ n ≤ σ 0 6
  · refine ok_iload_n 0 rfl rfl rfl (ok_i2l 1 rfl rfl (ok_lconst (w := 0) 2 rfl rfl rfl (by decide) (ok_aload_n 3 rfl rfl rfl (ok_getI 4 rfl rfl fl_X12_125 rfl rfl (Or.inl rfl) (ok_i2l 5 rfl rfl (ok_callSI (M' := M_Mo_isIn) (as := [_, _, _]) 6 rfl rfl ml_X12_99 (s_Mo_isIn) ⟨Nat.le_of_ble_eq_true rfl, Nat.le_of_ble_eq_true rfl⟩ rfl (Nat.le_of_ble_eq_true rfl) (fun σ' z hz => ?_)))))))
    rw [hz.1, hz.2]; clear hz z σ'
    rw [if_pos h]
    refine ok_if_ne 7 16 rfl rfl rfl (fun h11 => ?_) (fun h11 => ?_)
    · refine ok_aload_n 10 rfl rfl rfl (ok_iload_n 11 rfl rfl rfl (ok_putI 12 rfl rfl fl_X12_125 rfl rfl rfl rfl (ok_iconst 13 rfl rfl (by decide) (ok_zret 14 rfl rfl rfl (by first | omega | (simp [up_if]; omega) | (simp [up_if] at *; omega)) ?_))))
      exact ⟨_, rfl, Or.inl ⟨h.1, h.2, rfl, rfl⟩⟩
    · omega
  · refine ok_iload_n 0 rfl rfl rfl (ok_i2l 1 rfl rfl (ok_lconst (w := 0) 2 rfl rfl rfl (by decide) (ok_aload_n 3 rfl rfl rfl (ok_getI 4 rfl rfl fl_X12_125 rfl rfl (Or.inl rfl) (ok_i2l 5 rfl rfl (ok_callSI (M' := M_Mo_isIn) (as := [_, _, _]) 6 rfl rfl ml_X12_99 (s_Mo_isIn) ⟨Nat.le_of_ble_eq_true rfl, Nat.le_of_ble_eq_true rfl⟩ rfl (Nat.le_of_ble_eq_true rfl) (fun σ' z hz => ?_)))))))
    rw [hz.1, hz.2]; clear hz z σ'
    rw [if_neg h]
    refine ok_if_ne 7 16 rfl rfl rfl (fun h11 => ?_) (fun h11 => ?_)
    · omega
    · refine ok_iconst 8 rfl rfl (by decide) (ok_zret 9 rfl rfl rfl (by first | omega | (simp [up_if]; omega) | (simp [up_if] at *; omega)) ?_)
      exact ⟨_, rfl, Or.inr ⟨h, rfl, rfl⟩⟩
def seeB (σ : eS) (k : Int) : Int := if k < σ 0 6 then σ 5 k else -1
theorem s_Mo_see {σ : eS} {k : Int} (h0 : 0 ≤ k) (h6 : σ 0 6 ≤ 600) : MtI shB M_Mo_see [vr 0, vi k] σ (fun σ' z => σ' = σ ∧ z = seeB σ k) := by
  refine Mt.of okM_Mo_see (Nat.le_of_ble_eq_true rfl) (fun hk hg => ?_)
  refine ok_iload_n 0 rfl rfl rfl (ok_aload_n 1 rfl rfl rfl (ok_getI 2 rfl rfl fl_X12_125 rfl rfl (Or.inl rfl) (ok_icmp_ge 3 17 rfl rfl rfl (fun h5 => ?_) (fun h5 => ?_))))
  · refine ok_iconst 9 rfl rfl (by decide) (ok_iret 10 rfl rfl rfl ?_)
    exact ⟨_, rfl, rfl, by unfold seeB; first | rw [if_pos (by omega)] | rw [if_neg (by omega)]⟩
  · refine ok_aload_n 4 rfl rfl rfl (ok_getR 5 rfl rfl fl_X12_23 rfl rfl (ok_iload_n 6 rfl rfl rfl (ok_iald 7 rfl rfl rfl (by first | omega | (simp [up_if]; omega) | (simp [up_if] at *; omega)) (ok_goto 8 18 rfl rfl rfl (ok_iret 10 rfl rfl rfl ?_)))))
    exact ⟨_, rfl, rfl, by unfold seeB; first | rw [if_pos (by omega)] | rw [if_neg (by omega)]⟩
end
section
/-! reading: what each step keeps -/
def P0 (σ : eS) : Prop := 0 ≤ σ 0 13 ∧ σ 0 13 ≤ σ 0 6 ∧ σ 0 6 ≤ 600
def lex (σ σ' : eS) : Prop := fr (fun c k => c = 0 ∧ 11 ≤ k ∧ k ≤ 15) σ σ' ∧ σ 0 13 ≤ σ' 0 12 ∧ σ' 0 12 ≤ σ' 0 13 ∧ σ' 0 13 ≤ σ 0 6 ∧ (σ' 0 11 = 0 ∨ σ' 0 11 = 2 ∨ σ' 0 11 = 3) ∧ (σ' 0 11 ≠ 0 → σ' 0 12 < σ' 0 13) ∧ 0 ≤ σ' 0 14 ∧ σ' 0 14 ≤ 999999
theorem seeB_lt {σ : eS} {k : Int} (h : seeB σ k ≠ -1) : k < σ 0 6 := by
  unfold seeB at h
  split at h
  · next q => exact q
  · exact absurd rfl h
def p10 (d : Int) : Int := if d ≤ 0 then 0 else if d = 1 then 9 else if d = 2 then 99 else if d = 3 then 999 else if d = 4 then 9999 else if d = 5 then 99999 else 999999
theorem p10_s {d x c : Int} (h0 : 0 ≤ d) (h1 : d < 6) (hx : x ≤ p10 d) (hc : c ≤ 9) : 10 * x + c ≤ p10 (d + 1) := by
  have : d = 0 ∨ d = 1 ∨ d = 2 ∨ d = 3 ∨ d = 4 ∨ d = 5 := by omega
  rcases this with rfl | rfl | rfl | rfl | rfl | rfl <;> simp [p10] at hx ⊢ <;> omega
theorem p10_m {d : Int} (h0 : 6 ≤ d) : p10 d = 999999 := by
  unfold p10
  repeat rw [if_neg (by omega)]
theorem p10_le (d : Int) : p10 d ≤ 999999 := by
  unfold p10
  repeat (split; omega)
  omega
end
section
def Pz (σ : eS) : Prop := 0 ≤ σ 0 12 ∧ σ 0 12 ≤ σ 0 13 ∧ σ 0 13 ≤ σ 0 6 ∧ σ 0 6 ≤ 600 ∧ (σ 0 11 = 0 ∨ σ 0 11 = 2 ∨ σ 0 11 = 3) ∧ (σ 0 11 ≠ 0 → σ 0 12 < σ 0 13) ∧ 0 ≤ σ 0 14 ∧ σ 0 14 ≤ 999999
theorem Pz.of {σ σ' : eS} (h : P0 σ) (hl : lex σ σ') : Pz σ' := by
  obtain ⟨h1, h2, h3⟩ := h
  obtain ⟨f, l1, l2, l3, l4, l5, l6⟩ := hl
  have f6 := f 0 6 (by omega)
  exact ⟨by omega, by omega, by omega, by omega, l4, l5, l6⟩
theorem Pz.P0 {σ : eS} (h : Pz σ) : P0 σ := ⟨by have := h.1; have := h.2.1; omega, h.2.2.1, h.2.2.2.1⟩
theorem Pz.fr {σ σ' : eS} (h : Pz σ) (f : fr (fun c k => c ≠ 0 ∨ (k < 6 ∨ (6 < k ∧ k < 11) ∨ 15 < k)) σ σ') : Pz σ' := by
  unfold Pz
  rw [f 0 12 (by omega), f 0 13 (by omega), f 0 6 (by omega), f 0 11 (by omega), f 0 14 (by omega)]
  exact h
def numB (σ : eS) : Prop := σ 0 11 = 2 ∧ σ 0 13 - σ 0 12 ≤ 6
theorem s_Mo_isNumber {σ : eS} (h : Pz σ) : MtI shB M_Mo_isNumber [vr 0] σ (fun σ' z => σ' = σ ∧ ((z = 1 ∧ numB σ) ∨ (z = 0 ∧ ¬ numB σ))) := by
  refine Mt.of okM_Mo_isNumber (Nat.le_of_ble_eq_true rfl) (fun hk hg => ?_)
  obtain ⟨h1, h2, h3, h4, -⟩ := h
  refine ok_aload_n 0 rfl rfl rfl (ok_getI 1 rfl rfl fl_X12_147 rfl rfl (Or.inl rfl) (ok_iconst 2 rfl rfl (by decide) (ok_icmp_ne 3 26 rfl rfl rfl (fun h5 => ?_) (fun h5 => ?_))))
  · refine ok_iconst 13 rfl rfl (by decide) (ok_zret 14 rfl rfl rfl (by first | omega | (simp [up_if]; omega) | (simp [up_if] at *; omega)) ?_)
    exact ⟨_, rfl, rfl, by unfold numB; omega⟩
  · refine ok_aload_n 4 rfl rfl rfl (ok_getI 5 rfl rfl fl_X12_132 rfl rfl (Or.inl rfl) (ok_aload_n 6 rfl rfl rfl (ok_getI 7 rfl rfl fl_X12_138 rfl rfl (Or.inl rfl) (ok_isub 8 rfl rfl (by first | omega | (simp [up_if]; omega) | (simp [up_if] at *; omega)) (ok_bipush 9 rfl rfl (by decide) (by decide) (ok_icmp_gt 10 26 rfl rfl rfl (fun h19 => ?_) (fun h19 => ?_)))))))
    · refine ok_iconst 13 rfl rfl (by decide) (ok_zret 14 rfl rfl rfl (by first | omega | (simp [up_if]; omega) | (simp [up_if] at *; omega)) ?_)
      exact ⟨_, rfl, rfl, by unfold numB; omega⟩
    · refine ok_iconst 11 rfl rfl (by decide) (ok_goto 12 27 rfl rfl rfl (ok_zret 14 rfl rfl rfl (by first | omega | (simp [up_if]; omega) | (simp [up_if] at *; omega)) ?_))
      exact ⟨_, rfl, rfl, by unfold numB; omega⟩
def uOk (σ : eS) (k : Int) : Prop := 1 ≤ σ 7 k ∧ σ 7 k ≤ 999999 ∧ 0 ≤ σ 6 k ∧ σ 6 k ≤ 999999
abbrev rgF : Nat → Int → Prop := fun c k => (c = 0 ∧ 9 ≤ k ∧ k ≤ 15) ∨ c = 6 ∨ c = 7
def QrF (σ : eS) (k : Int) (σ' : eS) (z : Int) : Prop := fr rgF σ σ' ∧ Pz σ' ∧ ((z = 0 ∧ σ' 0 9 ≠ 0) ∨ (z = 1 ∧ σ 0 12 < σ' 0 12 ∧ σ' 0 9 = σ 0 9 ∧ k < 8 ∧ (0 < σ 0 18 → k ≠ σ 0 19) ∧ uOk σ' (8 * σ 0 18 + k) ∧ ∀ j, j ≠ 8 * σ 0 18 + k → σ' 6 j = σ 6 j ∧ σ' 7 j = σ 7 j))
end
section
abbrev rgR : Nat → Int → Prop := fun c k => (c = 0 ∧ 9 ≤ k ∧ k ≤ 19) ∨ c = 6 ∨ c = 7
/-- the rows read so far -/
def uRows (σ : eS) (r w : Int) : Prop := ∀ i j, 0 ≤ i → i < r → 0 ≤ j → j < w → uOk σ (8 * i + j)
def RR (σ : eS) : Prop := 0 ≤ σ 0 18 ∧ σ 0 18 ≤ 8 ∧ 0 ≤ σ 0 19 ∧ σ 0 19 ≤ 8 ∧ uRows σ (σ 0 18) (σ 0 19)
def QrR (σ : eS) (σ' : eS) (z : Int) : Prop := fr rgR σ σ' ∧ Pz σ' ∧ ((z = 0 ∧ σ' 0 9 ≠ 0) ∨ (z = 1 ∧ σ 0 12 < σ' 0 12 ∧ RR σ' ∧ σ' 0 9 = σ 0 9))
end
section
def gF (σ : eS) : Nat → Int
  | 0 => σ 0 4
  | k + 1 => (Int.gcd (gF σ k) (σ 4 k) : Int)
theorem gF_s (σ : eS) {k : Int} (h : 0 ≤ k) : gF σ (k + 1).toNat = (Int.gcd (gF σ k.toNat) (σ 4 k) : Int) := by
  have : (k + 1).toNat = k.toNat + 1 := by omega
  rw [this]
  show ((Int.gcd (gF σ k.toNat) (σ 4 ((k.toNat : Nat) : Int)) : Nat) : Int) = _
  rw [Int.toNat_of_nonneg h]
theorem gF_bd {σ : eS} (h : 1 ≤ σ 0 4) : ∀ k : Nat, 1 ≤ gF σ k ∧ gF σ k ≤ σ 0 4
  | 0 => ⟨h, Int.le_refl _⟩
  | k + 1 => by
    have h1 := gF_bd h k
    have h2 := gcd_pos (a := gF σ k) (b := σ 4 k) (by omega)
    show 1 ≤ (Int.gcd (gF σ k) (σ 4 k) : Int) ∧ _
    exact ⟨h2.1, Int.le_trans h2.2 h1.2⟩
/-- a table written into a slot: size, below, and the first j cells -/
def tw (σ : eS) (s n b g j : Int) : eS := fun c k => if c = 1 ∧ k = s then n else if c = 2 ∧ k = s then b else if c = 3 ∧ 64 * s ≤ k ∧ k < 64 * s + j then σ 4 (k - 64 * s) / g else σ c k
theorem tw_0 (σ : eS) (s n b g : Int) : up (up σ 1 s n) 2 s b = tw σ s n b g 0 := by
  funext c k
  simp only [up_if, tw]
  by_cases h1 : c = 1 ∧ k = s
  · rw [if_neg (by omega), if_pos h1, if_pos h1]
  · by_cases h2 : c = 2 ∧ k = s
    · rw [if_pos h2, if_neg h1, if_pos h2]
    · rw [if_neg h2, if_neg h1, if_neg h1, if_neg h2, if_neg (by omega)]
theorem tw_s {σ : eS} {s n b g j : Int} (h : 0 ≤ j) : up (tw σ s n b g j) 3 (64 * s + j) (σ 4 j / g) = tw σ s n b g (j + 1) := by
  funext c k
  simp only [up_if, tw]
  by_cases h1 : c = 3 ∧ k = 64 * s + j
  · rw [if_pos h1, if_neg (by omega), if_neg (by omega), if_pos ⟨h1.1, by omega, by omega⟩, h1.2]
    congr 2
    omega
  · rw [if_neg h1]
    by_cases h2 : c = 1 ∧ k = s
    · rw [if_pos h2, if_pos h2]
    · rw [if_neg h2, if_neg h2]
      by_cases h3 : c = 2 ∧ k = s
      · rw [if_pos h3, if_pos h3]
      · rw [if_neg h3, if_neg h3]
        by_cases h4 : c = 3 ∧ 64 * s ≤ k ∧ k < 64 * s + j
        · rw [if_pos h4, if_pos ⟨h4.1, by omega, by omega⟩]
        · rw [if_neg h4, if_neg (by omega)]
def fitT (σ : eS) (n : Int) : Prop := σ 0 4 / gF σ (n * n).toNat ≤ 999999 ∧ ∀ k, 0 ≤ k → k < n * n → σ 4 k / gF σ (n * n).toNat ≤ 99999999
def Qtk (σ : eS) (s n : Int) (σ' : eS) (z : Int) : Prop := (z = 0 ∧ σ' = σ ∧ ¬ fitT σ n) ∨ (z = 1 ∧ σ' = tw σ s n (if n = 0 then 0 else σ 0 4 / gF σ (n * n).toNat) (gF σ (n * n).toNat) (n * n) ∧ fitT σ n)
theorem s_Mo_takes {σ : eS} {s n : Int} (hs : 0 ≤ s ∧ s < 4) (hn : 0 ≤ n ∧ n ≤ 8) (hb : 1 ≤ σ 0 4) (hf : ∀ k, 0 ≤ k → k < n * n → 0 ≤ σ 4 k) : MtI shB M_Mo_takes [vr 0, vi s, vi n] σ (Qtk σ s n) := by
  refine Mt.of okM_Mo_takes (Nat.le_of_ble_eq_true rfl) (fun hk hg => ?_)
  obtain ⟨q1, q2⟩ := sq8 hn
  obtain ⟨G, eG⟩ : ∃ x, x = gF σ (n * n).toNat := ⟨_, rfl⟩
  obtain ⟨gp, gl⟩ := gF_bd hb (n * n).toNat
  rw [← eG] at gp gl
  have tail : ∀ b : Int, b = (if n = 0 then 0 else σ 0 4 / G) → fitT σ n → Ok shB M_Mo_takes 112 [some (vr 0), some (vi s), some (vi n), some (vl G), none, some (vi (n * n))] [] (tw σ s n b G 0) (fun σ' v => ∃ z, v = some (vi z) ∧ Qtk σ s n σ' z) := by
    intro b hbb hft
    refine ok_iconst 66 rfl rfl (by decide) (ok_ist5 67 rfl rfl rfl ?_)
    refine lpO (fun j : Int => [some (vr 0), some (vi s), some (vi n), some (vl G), none, some (vi j)]) (fun j => tw σ s n b G j) (fun j => 0 ≤ j ∧ j ≤ n * n) (fun j => (n * n - j).toNat) ?_ 0 ⟨by omega, by omega⟩
    rintro j ⟨h1, h2⟩ ih
    have e4 : ∀ k, tw σ s n b G j 4 k = σ 4 k := fun k => by simp [tw]
    refine ok_iload 68 rfl rfl rfl (ok_iload_n 69 rfl rfl rfl (ok_iload_n 70 rfl rfl rfl (ok_imul 71 rfl rfl (by first | omega | (simp [up_if]; omega) | (simp [up_if] at *; omega)) (ok_icmp_ge 72 151 rfl rfl rfl (fun h120 => ?_) (fun h120 => ?_)))))
    · refine ok_iconst 90 rfl rfl (by decide) (ok_zret 91 rfl rfl rfl (by first | omega | (simp [up_if]; omega) | (simp [up_if] at *; omega)) ?_)
      exact ⟨_, rfl, Or.inr ⟨rfl, by rw [← eG, ← hbb, show j = n * n by omega], hft⟩⟩
    · have d1 := hf j h1 h120
      have d2 := Int.ediv_nonneg d1 (by omega : 0 ≤ G)
      have d3 := hft.2 j h1 h120
      rw [← eG] at d3
      refine ok_aload_n 73 rfl rfl rfl (ok_getR 74 rfl rfl fl_X12_16 rfl rfl (ok_bipush 75 rfl rfl (by decide) (by decide) (ok_iload_n 76 rfl rfl rfl (ok_imul 77 rfl rfl (by first | omega | (simp [up_if]; omega) | (simp [up_if] at *; omega)) (ok_iload 78 rfl rfl rfl (ok_iadd 79 rfl rfl (by first | omega | (simp [up_if]; omega) | (simp [up_if] at *; omega)) (ok_aload_n 80 rfl rfl rfl (ok_getR 81 rfl rfl fl_X12_19 rfl rfl (ok_iload 82 rfl rfl rfl (ok_lald 83 rfl rfl rfl (by first | omega | (simp [up_if]; omega) | (simp [up_if] at *; omega)) (ok_lload_n 84 rfl rfl rfl (ok_ldiv 85 rfl rfl (by rw [e4]; omega) (by omega) (ok_l2i 86 rfl rfl (by rw [e4]; omega) (ok_iast 87 rfl rfl rfl (by first | omega | (simp [up_if]; omega) | (simp [up_if] at *; omega)) (ok_inc5 88 rfl rfl rfl (by first | omega | (simp [up_if]; omega) | (simp [up_if] at *; omega)) (ok_goto 89 115 rfl rfl rfl ?_))))))))))))))))
      rw [e4, tw_s h1]
      exact ih (j + 1) ⟨by omega, by omega⟩ (by omega)
  refine ok_aload_n 0 rfl rfl rfl (ok_getL 1 rfl rfl fl_X12_85 rfl rfl (ok_lst3 2 rfl rfl rfl (ok_iconst 3 rfl rfl (by decide) (ok_ist5 4 rfl rfl rfl ?_))))
  refine lpO (fun j : Int => [some (vr 0), some (vi s), some (vi n), some (vl (gF σ j.toNat)), none, some (vi j)]) (fun _ => σ) (fun j => 0 ≤ j ∧ j ≤ n * n) (fun j => (n * n - j).toNat) ?_ 0 ⟨by omega, by omega⟩
  rintro j ⟨h1, h2⟩ ih
  obtain ⟨gp', gl'⟩ := gF_bd hb j.toNat
  refine ok_iload 5 rfl rfl rfl (ok_iload_n 6 rfl rfl rfl (ok_iload_n 7 rfl rfl rfl (ok_imul 8 rfl rfl (by first | omega | (simp [up_if]; omega) | (simp [up_if] at *; omega)) (ok_icmp_ge 9 34 rfl rfl rfl (fun h13 => ?_) (fun h13 => ?_)))))
  · rw [show j = n * n by omega, ← eG]
    have b0 := Int.ediv_nonneg (by omega : 0 ≤ σ 0 4) (by omega : 0 ≤ G)
    refine ok_aload_n 19 rfl rfl rfl (ok_getL 20 rfl rfl fl_X12_85 rfl rfl (ok_lload_n 21 rfl rfl rfl (ok_ldiv 22 rfl rfl (by first | omega | (simp [up_if]; omega) | (simp [up_if] at *; omega)) (by first | omega | (simp [up_if]; omega) | (simp [up_if] at *; omega)) (ok_ldc2 23 (999999) rfl rfl kc_X12_93 (by decide) (ok_lcmp_le 24 25 49 rfl rfl rfl rfl rfl (fun h43 => ?_) (fun h43 => ?_))))))
    · refine ok_iconst 28 rfl rfl (by decide) (ok_ist5 29 rfl rfl rfl ?_)
      refine lpO (fun j : Int => [some (vr 0), some (vi s), some (vi n), some (vl G), none, some (vi j)]) (fun _ => σ) (fun j => 0 ≤ j ∧ j ≤ n * n ∧ ∀ k, 0 ≤ k → k < j → σ 4 k / G ≤ 99999999) (fun j => (n * n - j).toNat) ?_ 0 ⟨by omega, by omega, fun k a b => by omega⟩
      rintro j ⟨i1, i2, i3⟩ ih
      refine ok_iload 30 rfl rfl rfl (ok_iload_n 31 rfl rfl rfl (ok_iload_n 32 rfl rfl rfl (ok_imul 33 rfl rfl (by first | omega | (simp [up_if]; omega) | (simp [up_if] at *; omega)) (ok_icmp_ge 34 84 rfl rfl rfl (fun h57 => ?_) (fun h57 => ?_)))))
      · refine ok_aload_n 48 rfl rfl rfl (ok_getR 49 rfl rfl fl_X12_7 rfl rfl (ok_iload_n 50 rfl rfl rfl (ok_iload_n 51 rfl rfl rfl (ok_iast 52 rfl rfl rfl (by first | omega | (simp [up_if]; omega) | (simp [up_if] at *; omega)) (ok_aload_n 53 rfl rfl rfl (ok_getR 54 rfl rfl fl_X12_13 rfl rfl (ok_iload_n 55 rfl rfl rfl (ok_iload_n 56 rfl rfl rfl (ok_if_ne 57 104 rfl rfl rfl (fun h97 => ?_) (fun h97 => ?_))))))))))
        · refine ok_aload_n 60 rfl rfl rfl (ok_getL 61 rfl rfl fl_X12_85 rfl rfl (ok_lload_n 62 rfl rfl rfl (ok_ldiv 63 rfl rfl (by first | omega | (simp [up_if]; omega) | (simp [up_if] at *; omega)) (by first | omega | (simp [up_if]; omega) | (simp [up_if] at *; omega)) (ok_l2i 64 rfl rfl (by first | omega | (simp [up_if]; omega) | (simp [up_if] at *; omega)) (ok_iast 65 rfl rfl rfl (by first | omega | (simp [up_if]; omega) | (simp [up_if] at *; omega)) ?_)))))
          have hft : fitT σ n := ⟨by rw [← eG]; omega, fun k a b => by rw [← eG]; exact i3 k a (by omega)⟩
          rw [show j = n * n by omega]
          first | (rw [tw_0 σ s n 0 G]; exact tail 0 (by rw [if_pos (by omega)]) hft) | (simp only [up_ne _ _ _ _ (show (0 : Nat) ≠ 1 by decide)]; rw [tw_0 σ s n _ G]; exact tail _ (by rw [if_neg (by omega)]) hft)
        · refine ok_iconst 58 rfl rfl (by decide) (ok_goto 59 111 rfl rfl rfl (ok_iast 65 rfl rfl rfl (by first | omega | (simp [up_if]; omega) | (simp [up_if] at *; omega)) ?_))
          have hft : fitT σ n := ⟨by rw [← eG]; omega, fun k a b => by rw [← eG]; exact i3 k a (by omega)⟩
          rw [show j = n * n by omega]
          first | (rw [tw_0 σ s n 0 G]; exact tail 0 (by rw [if_pos (by omega)]) hft) | (simp only [up_ne _ _ _ _ (show (0 : Nat) ≠ 1 by decide)]; rw [tw_0 σ s n _ G]; exact tail _ (by rw [if_neg (by omega)]) hft)
      · have d1 := hf j i1 h57
        refine ok_aload_n 35 rfl rfl rfl (ok_getR 36 rfl rfl fl_X12_19 rfl rfl (ok_iload 37 rfl rfl rfl (ok_lald 38 rfl rfl rfl (by first | omega | (simp [up_if]; omega) | (simp [up_if] at *; omega)) (ok_lload_n 39 rfl rfl rfl (ok_ldiv 40 rfl rfl (by first | omega | (simp [up_if]; omega) | (simp [up_if] at *; omega)) (by first | omega | (simp [up_if]; omega) | (simp [up_if] at *; omega)) (ok_ldc2 41 (99999999) rfl rfl kc_X12_95 (by decide) (ok_lcmp_le 42 43 78 rfl rfl rfl rfl rfl (fun h72 => ?_) (fun h72 => ?_))))))))
        · refine ok_inc5 46 rfl rfl rfl (by first | omega | (simp [up_if]; omega) | (simp [up_if] at *; omega)) (ok_goto 47 52 rfl rfl rfl ?_)
          exact ih (j + 1) ⟨by omega, by omega, lt_ext i3 h72⟩ (by omega)
        · refine ok_iconst 44 rfl rfl (by decide) (ok_zret 45 rfl rfl rfl (by first | omega | (simp [up_if]; omega) | (simp [up_if] at *; omega)) ?_)
          exact ⟨_, rfl, Or.inl ⟨rfl, rfl, fun q => by have := q.2 j i1 h57; rw [← eG] at this; omega⟩⟩
    · refine ok_iconst 26 rfl rfl (by decide) (ok_zret 27 rfl rfl rfl (by first | omega | (simp [up_if]; omega) | (simp [up_if] at *; omega)) ?_)
      exact ⟨_, rfl, Or.inl ⟨rfl, rfl, fun q => by have := q.1; rw [← eG] at this; omega⟩⟩
  · refine ok_lload_n 10 rfl rfl rfl (ok_aload_n 11 rfl rfl rfl (ok_getR 12 rfl rfl fl_X12_19 rfl rfl (ok_iload 13 rfl rfl rfl (ok_lald 14 rfl rfl rfl (by first | omega | (simp [up_if]; omega) | (simp [up_if] at *; omega)) (ok_callSL (M' := M_Mo_common) (as := [_, _]) 15 rfl rfl ml_X12_89 (s_Mo_common (by omega) (hf j h1 h13)) ⟨Nat.le_of_ble_eq_true rfl, Nat.le_of_ble_eq_true rfl⟩ rfl (Nat.le_of_ble_eq_true rfl) (fun σ' z hz => ?_))))))
    rw [hz.1, hz.2]
    clear hz z σ'
    refine ok_lst3 16 rfl rfl rfl (ok_inc5 17 rfl rfl rfl (by first | omega | (simp [up_if]; omega) | (simp [up_if] at *; omega)) (ok_goto 18 8 rfl rfl rfl ?_))
    rw [← gF_s σ h1]
    exact ih (j + 1) ⟨by omega, by omega⟩ (by omega)
theorem tw_B {σ : eS} {s n b g : Int} (hB : iB1 σ) (hs : 0 ≤ s ∧ s < 4) (hn : 0 ≤ n ∧ n ≤ 8) (hb : 0 < n → 1 ≤ b ∧ b ≤ 999999) (hc : ∀ k, 0 ≤ k → k < n * n → 0 ≤ σ 4 k / g ∧ σ 4 k / g ≤ 99999999) : iB1 (tw σ s n b g (n * n)) := by
  refine ⟨fun t h1 h2 => ?_, fun k h1 h2 => ?_, fun k h1 h2 => ?_⟩
  · by_cases q : t = s
    · subst q
      simp only [tw]
      simp
      exact ⟨hn.1, hn.2, hb⟩
    · simp only [tw]
      simp [q]
      exact hB.1 t h1 h2
  · simp only [tw]
    simp
    split
    · next q => exact hc _ (by omega) (by omega)
    · exact hB.2.1 k h1 h2
  · simp only [tw]
    simp
    exact hB.2.2 k h1 h2
end
section
abbrev rgO : Nat → Int → Prop := fun c k => (c = 0 ∧ k = 4) ∨ c = 1 ∨ c = 2 ∨ c = 3 ∨ c = 4 ∨ c = 6 ∨ c = 7
def QO (σ : eS) (σ' : eS) (z : Int) : Prop := fr rgO σ σ' ∧ iB1 σ' ∧ (z = 0 ∨ z = 1)
theorem gcd_div {u g : Int} (hu : 1 ≤ u) (hg : 1 ≤ g) (h : g ≤ u) : 1 ≤ u / g ∧ u / g ≤ u := by
  have h1 : u / g ≤ u := Int.ediv_le_self g (by omega)
  have h2 : 1 ≤ u / g := (Int.le_ediv_iff_mul_le (by omega)).mpr (by omega)
  exact ⟨h2, h1⟩
theorem div_bd {u g B : Int} (hu : 0 ≤ u ∧ u ≤ B) (hg : 1 ≤ g) : 0 ≤ u / g ∧ u / g ≤ B := by
  have h1 : u / g ≤ u := Int.ediv_le_self g hu.1
  have h2 : 0 ≤ u / g := Int.ediv_nonneg hu.1 (by omega)
  exact ⟨h2, by omega⟩
theorem mul_bd {a b A B : Int} (ha : 0 ≤ a ∧ a ≤ A) (hb : 0 ≤ b ∧ b ≤ B) : 0 ≤ a * b ∧ a * b ≤ A * B :=
  ⟨Int.mul_nonneg ha.1 hb.1, Int.mul_le_mul ha.2 hb.2 hb.1 (Int.le_trans ha.1 ha.2)⟩
end
section
theorem iB1.fr {σ τ : eS} (h : iB1 σ) (f : ∀ (c : Nat) (k : Int), (c = 1 ∨ c = 2 ∨ c = 3 ∨ c = 4) → τ c k = σ c k) : iB1 τ :=
  ⟨fun t a b => by rw [f 1 t (by omega), f 2 t (by omega)]; exact h.1 t a b, fun k a b => by rw [f 3 k (by omega)]; exact h.2.1 k a b, fun k a b => by rw [f 4 k (by omega)]; exact h.2.2 k a b⟩
abbrev rgT : Nat → Int → Prop := fun c k => (c = 0 ∧ (k = 4 ∨ (6 ≤ k ∧ k ≤ 19))) ∨ c = 1 ∨ c = 2 ∨ c = 3 ∨ c = 4 ∨ c = 6 ∨ c = 7
def QT (σ : eS) (σ' : eS) (z : Int) : Prop := fr rgT σ σ' ∧ iB1 σ' ∧ σ' 0 6 = 0
theorem s_Mo_fault {σ : eS} {w : Int} : MtI shB M_Mo_fault [vr 0, vi w] σ (fun σ' z => σ' = σ ∧ z = if w = 0 then σ 0 7 else if w = 1 then σ 0 8 else -1) := by
  refine Mt.of okM_Mo_fault (Nat.le_of_ble_eq_true rfl) (fun hk hg => ?_)
  refine ok_iload_n 0 rfl rfl rfl (ok_if_ne 1 11 rfl rfl rfl (fun h1 => ?_) (fun h1 => ?_))
  · refine ok_iload_n 5 rfl rfl rfl (ok_iconst 6 rfl rfl (by decide) (ok_icmp_ne 7 23 rfl rfl rfl (fun h13 => ?_) (fun h13 => ?_)))
    · refine ok_iconst 11 rfl rfl (by decide) (ok_iret 12 rfl rfl rfl ?_)
      refine ⟨_, rfl, rfl, ?_⟩
      first | rw [if_pos (by omega)] | rw [if_neg (by omega), if_pos (by omega)] | rw [if_neg (by omega), if_neg (by omega)]
    · refine ok_aload_n 8 rfl rfl rfl (ok_getI 9 rfl rfl fl_X12_26 rfl rfl (Or.inl rfl) (ok_goto 10 24 rfl rfl rfl (ok_iret 12 rfl rfl rfl ?_)))
      refine ⟨_, rfl, rfl, ?_⟩
      first | rw [if_pos (by omega)] | rw [if_neg (by omega), if_pos (by omega)] | rw [if_neg (by omega), if_neg (by omega)]
  · refine ok_aload_n 2 rfl rfl rfl (ok_getI 3 rfl rfl fl_X12_189 rfl rfl (Or.inl rfl) (ok_goto 4 24 rfl rfl rfl (ok_iret 12 rfl rfl rfl ?_)))
    refine ⟨_, rfl, rfl, ?_⟩
    first | rw [if_pos (by omega)] | rw [if_neg (by omega), if_pos (by omega)] | rw [if_neg (by omega), if_neg (by omega)]
end
section
theorem s_Mo_groupsOf {σ : eS} {s : Int} (hB : iB1 σ) (hs : 0 ≤ s ∧ s < 4) : MtI shB M_Mo_groupsOf [vr 0, vi s] σ (fun σ' z => fr (fun c _ => c = 8) σ σ' ∧ 0 ≤ z ∧ z ≤ 16) := by
  refine Mt.of okM_Mo_groupsOf (Nat.le_of_ble_eq_true rfl) (fun hk hg => ?_)
  obtain ⟨n, en⟩ : ∃ x, x = σ 1 s := ⟨_, rfl⟩
  obtain ⟨g1, g2, -⟩ := hB.1 s hs.1 hs.2
  rw [← en] at g1 g2
  have hF : ∀ τ : eS, fr (fun c _ => c = 8) σ τ → iB1 τ ∧ τ 1 s = n := fun τ f => ⟨hB.fr (fun c k q => f c k (by omega)), by rw [f 1 s (by omega), en]⟩
  refine ok_aload_n 0 rfl rfl rfl (ok_getR 1 rfl rfl fl_X12_7 rfl rfl (ok_iload_n 2 rfl rfl rfl (ok_iald 3 rfl rfl rfl (by first | omega | (simp [up_if]; omega) | (simp [up_if] at *; omega)) (ok_ist2 4 rfl rfl rfl (ok_iconst 5 rfl rfl (by decide) (ok_ist3 6 rfl rfl rfl ?_))))))
  rw [← en]
  refine lpO2 (fun (k : Int) (_ : eS) => [some (vr 0), some (vi s), some (vi n), some (vi k), none, none, none]) (fun _ τ => τ) (fun k τ => 0 ≤ k ∧ k ≤ 16 ∧ fr (fun c _ => c = 8) σ τ) (fun k _ => (16 - k).toNat) ?_ 0 σ ⟨by omega, by omega, fr.rf⟩
  rintro k τ ⟨i1, i2, i3⟩ ih
  refine ok_iload_n 7 rfl rfl rfl (ok_bipush 8 rfl rfl (by decide) (by decide) (ok_icmp_ge 9 28 rfl rfl rfl (fun h12 => ?_) (fun h12 => ?_)))
  · refine ok_iconst 17 rfl rfl (by decide) (ok_ist3 18 rfl rfl rfl ?_)
    clear ih i1 i2 h12
    refine lpO2 (fun (i : Int) (_ : eS) => [some (vr 0), some (vi s), some (vi n), some (vi i), none, none, none]) (fun _ τ => τ) (fun i τ => 0 ≤ i ∧ i ≤ n ∧ fr (fun c _ => c = 8) σ τ) (fun i _ => (n - i).toNat) ?_ 0 τ ⟨by omega, by omega, i3⟩
    clear i3 τ k
    rintro i τ ⟨i1, i2, i3⟩ ih
    refine ok_iload_n 19 rfl rfl rfl (ok_iload_n 20 rfl rfl rfl (ok_icmp_ge 21 134 rfl rfl rfl (fun h32 => ?_) (fun h32 => ?_)))
    · refine ok_iconst 72 rfl rfl (by decide) (ok_ist3 73 rfl rfl rfl (ok_iconst 74 rfl rfl (by decide) (ok_ist4 75 rfl rfl rfl ?_)))
      clear ih i1 i2 h32
      refine lpO2 (fun (a k : Int) => [some (vr 0), some (vi s), some (vi n), some (vi a), some (vi k), none, none]) (fun _ _ => τ) (fun a k => 0 ≤ k ∧ k ≤ n ∧ 0 ≤ a ∧ a ≤ 2 * k) (fun _ k => (n - k).toNat) ?_ 0 0 ⟨by omega, by omega, by omega, by omega⟩
      rintro a k ⟨k1, k2, k3, k4⟩ ih
      refine ok_iload 76 rfl rfl rfl (ok_iload_n 77 rfl rfl rfl (ok_icmp_ge 78 201 rfl rfl rfl (fun h142 => ?_) (fun h142 => ?_)))
      · refine ok_iload_n 109 rfl rfl rfl (ok_iret 110 rfl rfl rfl ?_)
        exact ⟨_, rfl, i3, by omega, by omega⟩
      · refine ok_iload_n 79 rfl rfl rfl (ok_aload_n 80 rfl rfl rfl (ok_getR 81 rfl rfl fl_X12_36 rfl rfl (ok_iload 82 rfl rfl rfl (ok_iald 83 rfl rfl rfl (by first | omega | (simp [up_if]; omega) | (simp [up_if] at *; omega)) (ok_iload 84 rfl rfl rfl (ok_icmp_ne 85 162 rfl rfl rfl (fun h155 => ?_) (fun h155 => ?_)))))))
        · refine ok_iconst 88 rfl rfl (by decide) (ok_callSI (M' := M_Mo_one) (as := [_]) 89 rfl rfl ml_X12_192 (s_Mo_one) ⟨Nat.le_of_ble_eq_true rfl, Nat.le_of_ble_eq_true rfl⟩ rfl (Nat.le_of_ble_eq_true rfl) (fun σ' z1 hz1 => ?_))
          obtain ⟨hs_, hz1⟩ := hz1
          rw [hs_]; clear hs_ σ'
          have q1 : 0 ≤ z1 ∧ z1 ≤ 1 := by rw [hz1]; split <;> omega
          refine ok_aload_n 90 rfl rfl rfl (ok_getR 91 rfl rfl fl_X12_36 rfl rfl (ok_bipush 92 rfl rfl (by decide) (by decide) (ok_iload 93 rfl rfl rfl (ok_iadd 94 rfl rfl (by first | omega | (simp [up_if]; omega) | (simp [up_if] at *; omega)) (ok_iald 95 rfl rfl rfl (by first | omega | (simp [up_if]; omega) | (simp [up_if] at *; omega)) (ok_bipush 96 rfl rfl (by decide) (by decide) (ok_iload 97 rfl rfl rfl (ok_iadd 98 rfl rfl (by first | omega | (simp [up_if]; omega) | (simp [up_if] at *; omega)) (ok_icmp_ne 99 188 rfl rfl rfl (fun h181 => ?_) (fun h181 => ?_))))))))))
          · refine ok_iconst 102 rfl rfl (by decide) (ok_callSI (M' := M_Mo_one) (as := [_]) 103 rfl rfl ml_X12_192 (s_Mo_one) ⟨Nat.le_of_ble_eq_true rfl, Nat.le_of_ble_eq_true rfl⟩ rfl (Nat.le_of_ble_eq_true rfl) (fun σ' z2 hz2 => ?_))
            obtain ⟨hs_, hz2⟩ := hz2
            rw [hs_]; clear hs_ σ'
            have q2 : 0 ≤ z2 ∧ z2 ≤ 1 := by rw [hz2]; split <;> omega
            refine ok_iadd 104 rfl rfl (by first | omega | (simp [up_if]; omega) | (simp [up_if] at *; omega)) (ok_iadd 105 rfl rfl (by first | omega | (simp [up_if]; omega) | (simp [up_if] at *; omega)) (ok_ist3 106 rfl rfl rfl (ok_inc4 107 rfl rfl rfl (by first | omega | (simp [up_if]; omega) | (simp [up_if] at *; omega)) (ok_goto 108 139 rfl rfl rfl ?_))))
            exact ih _ (k + 1) ⟨by omega, by omega, by omega, by omega⟩ (by omega)
          · refine ok_iconst 100 rfl rfl (by decide) (ok_goto 101 189 rfl rfl rfl (ok_callSI (M' := M_Mo_one) (as := [_]) 103 rfl rfl ml_X12_192 (s_Mo_one) ⟨Nat.le_of_ble_eq_true rfl, Nat.le_of_ble_eq_true rfl⟩ rfl (Nat.le_of_ble_eq_true rfl) (fun σ' z2 hz2 => ?_)))
            obtain ⟨hs_, hz2⟩ := hz2
            rw [hs_]; clear hs_ σ'
            have q2 : 0 ≤ z2 ∧ z2 ≤ 1 := by rw [hz2]; split <;> omega
            refine ok_iadd 104 rfl rfl (by first | omega | (simp [up_if]; omega) | (simp [up_if] at *; omega)) (ok_iadd 105 rfl rfl (by first | omega | (simp [up_if]; omega) | (simp [up_if] at *; omega)) (ok_ist3 106 rfl rfl rfl (ok_inc4 107 rfl rfl rfl (by first | omega | (simp [up_if]; omega) | (simp [up_if] at *; omega)) (ok_goto 108 139 rfl rfl rfl ?_))))
            exact ih _ (k + 1) ⟨by omega, by omega, by omega, by omega⟩ (by omega)
        · refine ok_iconst 86 rfl rfl (by decide) (ok_goto 87 163 rfl rfl rfl (ok_callSI (M' := M_Mo_one) (as := [_]) 89 rfl rfl ml_X12_192 (s_Mo_one) ⟨Nat.le_of_ble_eq_true rfl, Nat.le_of_ble_eq_true rfl⟩ rfl (Nat.le_of_ble_eq_true rfl) (fun σ' z1 hz1 => ?_)))
          obtain ⟨hs_, hz1⟩ := hz1
          rw [hs_]; clear hs_ σ'
          have q1 : 0 ≤ z1 ∧ z1 ≤ 1 := by rw [hz1]; split <;> omega
          refine ok_aload_n 90 rfl rfl rfl (ok_getR 91 rfl rfl fl_X12_36 rfl rfl (ok_bipush 92 rfl rfl (by decide) (by decide) (ok_iload 93 rfl rfl rfl (ok_iadd 94 rfl rfl (by first | omega | (simp [up_if]; omega) | (simp [up_if] at *; omega)) (ok_iald 95 rfl rfl rfl (by first | omega | (simp [up_if]; omega) | (simp [up_if] at *; omega)) (ok_bipush 96 rfl rfl (by decide) (by decide) (ok_iload 97 rfl rfl rfl (ok_iadd 98 rfl rfl (by first | omega | (simp [up_if]; omega) | (simp [up_if] at *; omega)) (ok_icmp_ne 99 188 rfl rfl rfl (fun h181 => ?_) (fun h181 => ?_))))))))))
          · refine ok_iconst 102 rfl rfl (by decide) (ok_callSI (M' := M_Mo_one) (as := [_]) 103 rfl rfl ml_X12_192 (s_Mo_one) ⟨Nat.le_of_ble_eq_true rfl, Nat.le_of_ble_eq_true rfl⟩ rfl (Nat.le_of_ble_eq_true rfl) (fun σ' z2 hz2 => ?_))
            obtain ⟨hs_, hz2⟩ := hz2
            rw [hs_]; clear hs_ σ'
            have q2 : 0 ≤ z2 ∧ z2 ≤ 1 := by rw [hz2]; split <;> omega
            refine ok_iadd 104 rfl rfl (by first | omega | (simp [up_if]; omega) | (simp [up_if] at *; omega)) (ok_iadd 105 rfl rfl (by first | omega | (simp [up_if]; omega) | (simp [up_if] at *; omega)) (ok_ist3 106 rfl rfl rfl (ok_inc4 107 rfl rfl rfl (by first | omega | (simp [up_if]; omega) | (simp [up_if] at *; omega)) (ok_goto 108 139 rfl rfl rfl ?_))))
            exact ih _ (k + 1) ⟨by omega, by omega, by omega, by omega⟩ (by omega)
          · refine ok_iconst 100 rfl rfl (by decide) (ok_goto 101 189 rfl rfl rfl (ok_callSI (M' := M_Mo_one) (as := [_]) 103 rfl rfl ml_X12_192 (s_Mo_one) ⟨Nat.le_of_ble_eq_true rfl, Nat.le_of_ble_eq_true rfl⟩ rfl (Nat.le_of_ble_eq_true rfl) (fun σ' z2 hz2 => ?_)))
            obtain ⟨hs_, hz2⟩ := hz2
            rw [hs_]; clear hs_ σ'
            have q2 : 0 ≤ z2 ∧ z2 ≤ 1 := by rw [hz2]; split <;> omega
            refine ok_iadd 104 rfl rfl (by first | omega | (simp [up_if]; omega) | (simp [up_if] at *; omega)) (ok_iadd 105 rfl rfl (by first | omega | (simp [up_if]; omega) | (simp [up_if] at *; omega)) (ok_ist3 106 rfl rfl rfl (ok_inc4 107 rfl rfl rfl (by first | omega | (simp [up_if]; omega) | (simp [up_if] at *; omega)) (ok_goto 108 139 rfl rfl rfl ?_))))
            exact ih _ (k + 1) ⟨by omega, by omega, by omega, by omega⟩ (by omega)
    · refine ok_iconst 22 rfl rfl (by decide) (ok_ist4 23 rfl rfl rfl ?_)
      refine lpO2 (fun (j : Int) (_ : eS) => [some (vr 0), some (vi s), some (vi n), some (vi i), some (vi j), none, none]) (fun _ τ => τ) (fun j τ => 0 ≤ j ∧ j ≤ n ∧ fr (fun c _ => c = 8) σ τ) (fun j _ => (n - j).toNat) ?_ 0 τ ⟨by omega, by omega, i3⟩
      clear i3 τ
      rintro j τ ⟨j1, j2, i3⟩ ih2
      obtain ⟨b1, b2⟩ := hF τ i3
      have back : ∀ (τ : eS) (x y : Option eV), fr (fun c _ => c = 8) σ τ → j < n → Ok shB M_Mo_groupsOf 122 [some (vr 0), some (vi s), some (vi n), some (vi i), some (vi j), x, y] [] τ (fun σ' v => ∃ z, v = some (vi z) ∧ fr (fun c _ => c = 8) σ σ' ∧ 0 ≤ z ∧ z ≤ 16) := by
        intro τ x y f hj
        refine ok_inc4 68 rfl rfl rfl (by first | omega | (simp [up_if]; omega) | (simp [up_if] at *; omega)) (ok_goto 69 38 rfl rfl rfl ?_)
        exact ok_fg [some (vr 0), some (vi s), some (vi n), some (vi i), some (vi (j + 1)), none, none] ⟨rfl, rfl, rfl, rfl, rfl, trivial⟩ (ih2 (j + 1) τ ⟨by omega, by omega, f⟩ (by omega))
      refine ok_iload 24 rfl rfl rfl (ok_iload_n 25 rfl rfl rfl (ok_icmp_ge 26 128 rfl rfl rfl (fun h41 => ?_) (fun h41 => ?_)))
      · refine ok_inc3 70 rfl rfl rfl (by first | omega | (simp [up_if]; omega) | (simp [up_if] at *; omega)) (ok_goto 71 30 rfl rfl rfl ?_)
        exact ok_fg [some (vr 0), some (vi s), some (vi n), some (vi (i + 1)), none, none, none] ⟨rfl, rfl, rfl, rfl, trivial⟩ (ih (i + 1) τ ⟨by omega, by omega, i3⟩ (by omega))
      · refine ok_aload_n 27 rfl rfl rfl (ok_getR 28 rfl rfl fl_X12_36 rfl rfl (ok_bipush 29 rfl rfl (by decide) (by decide) (ok_iload 30 rfl rfl rfl (ok_iadd 31 rfl rfl (by first | omega | (simp [up_if]; omega) | (simp [up_if] at *; omega)) (ok_iald 32 rfl rfl rfl (by first | omega | (simp [up_if]; omega) | (simp [up_if] at *; omega)) (ok_ist5 33 rfl rfl rfl (ok_aload_n 34 rfl rfl rfl (ok_iload_n 35 rfl rfl rfl (ok_iload_n 36 rfl rfl rfl (ok_iload 37 rfl rfl rfl (ok_callVI (M' := M_Mo_at) (as := [_, _, _]) 38 rfl rfl ml_X12_107 (s_Mo_at b1 hs ⟨by omega, by omega⟩ ⟨by omega, by omega⟩) rfl rfl (Nat.le_of_ble_eq_true rfl) ⟨Nat.le_of_ble_eq_true rfl, Nat.le_of_ble_eq_true rfl⟩ rfl (Nat.le_of_ble_eq_true rfl) (fun σ' z hz => ?_))))))))))))
        rw [hz.1, hz.2]
        clear hz z σ'
        refine ok_if_eq 39 122 rfl rfl rfl (fun h64 => ?_) (fun h64 => ?_)
        · exact back τ _ _ i3 (by omega)
        · refine ok_iload 40 rfl rfl rfl (ok_aload_n 41 rfl rfl rfl (ok_getR 42 rfl rfl fl_X12_36 rfl rfl (ok_iload_n 43 rfl rfl rfl (ok_iald 44 rfl rfl rfl (by first | omega | (simp [up_if]; omega) | (simp [up_if] at *; omega)) (ok_icmp_ne 45 81 rfl rfl rfl (fun h75 => ?_) (fun h75 => ?_))))))
          · refine ok_iconst 47 rfl rfl (by decide) (ok_ist6 48 rfl rfl rfl ?_)
            refine lpO2 (fun (k : Int) (_ : eS) => [some (vr 0), some (vi s), some (vi n), some (vi i), some (vi j), some (vi (τ 8 (8 + j))), some (vi k)]) (fun _ τ => τ) (fun k τ => 0 ≤ k ∧ k ≤ 16 ∧ fr (fun c _ => c = 8) σ τ) (fun k _ => (16 - k).toNat) ?_ 0 τ ⟨by omega, by omega, i3⟩
            rintro k ρ ⟨k1, k2, k3⟩ ih3
            refine ok_iload 49 rfl rfl rfl (ok_bipush 50 rfl rfl (by decide) (by decide) (ok_icmp_ge 51 122 rfl rfl rfl (fun h88 => ?_) (fun h88 => ?_)))
            · exact back ρ _ _ k3 (by omega)
            · refine ok_aload_n 52 rfl rfl rfl (ok_getR 53 rfl rfl fl_X12_36 rfl rfl (ok_iload 54 rfl rfl rfl (ok_iald 55 rfl rfl rfl (by first | omega | (simp [up_if]; omega) | (simp [up_if] at *; omega)) (ok_iload 56 rfl rfl rfl (ok_icmp_ne 57 116 rfl rfl rfl (fun h100 => ?_) (fun h100 => ?_))))))
              · refine ok_inc6 66 rfl rfl rfl (by first | omega | (simp [up_if]; omega) | (simp [up_if] at *; omega)) (ok_goto 67 84 rfl rfl rfl ?_)
                first | exact ih3 (k + 1) _ ⟨by omega, by omega, k3⟩ (by omega) | exact ih3 (k + 1) _ ⟨by omega, by omega, fr_up k3 rfl⟩ (by omega)
              · refine ok_aload_n 58 rfl rfl rfl (ok_getR 59 rfl rfl fl_X12_36 rfl rfl (ok_iload 60 rfl rfl rfl (ok_aload_n 61 rfl rfl rfl (ok_getR 62 rfl rfl fl_X12_36 rfl rfl (ok_iload_n 63 rfl rfl rfl (ok_iald 64 rfl rfl rfl (by first | omega | (simp [up_if]; omega) | (simp [up_if] at *; omega)) (ok_iast 65 rfl rfl rfl (by first | omega | (simp [up_if]; omega) | (simp [up_if] at *; omega)) (ok_inc6 66 rfl rfl rfl (by first | omega | (simp [up_if]; omega) | (simp [up_if] at *; omega)) (ok_goto 67 84 rfl rfl rfl ?_)))))))))
                first | exact ih3 (k + 1) _ ⟨by omega, by omega, k3⟩ (by omega) | exact ih3 (k + 1) _ ⟨by omega, by omega, fr_up k3 rfl⟩ (by omega)
          · refine ok_goto 46 122 rfl rfl rfl ?_
            exact back τ _ _ i3 (by omega)
  · refine ok_aload_n 10 rfl rfl rfl (ok_getR 11 rfl rfl fl_X12_36 rfl rfl (ok_iload_n 12 rfl rfl rfl (ok_iload_n 13 rfl rfl rfl (ok_iast 14 rfl rfl rfl (by first | omega | (simp [up_if]; omega) | (simp [up_if] at *; omega)) (ok_inc3 15 rfl rfl rfl (by first | omega | (simp [up_if]; omega) | (simp [up_if] at *; omega)) (ok_goto 16 9 rfl rfl rfl ?_))))))
    exact ih (k + 1) _ ⟨by omega, by omega, fr_up i3 rfl⟩ (by omega)
def cntB (σ : eS) (s : Int) : Int := sm (fun k => if 0 < σ 3 (64 * s + k) then 1 else 0) (σ 1 s * σ 1 s).toNat
theorem s_Mo_aboveNought {σ : eS} {s : Int} (hB : iB1 σ) (hs : 0 ≤ s ∧ s < 4) : MtI shB M_Mo_aboveNought [vr 0, vi s] σ (fun σ' z => σ' = σ ∧ z = cntB σ s) := by
  refine Mt.of okM_Mo_aboveNought (Nat.le_of_ble_eq_true rfl) (fun hk hg => ?_)
  obtain ⟨n, en⟩ : ∃ x, x = σ 1 s := ⟨_, rfl⟩
  obtain ⟨g1, g2, -⟩ := hB.1 s hs.1 hs.2
  rw [← en] at g1 g2
  obtain ⟨q1, q2⟩ := sq8 ⟨g1, g2⟩
  refine ok_iconst 0 rfl rfl (by decide) (ok_ist2 1 rfl rfl rfl (ok_iconst 2 rfl rfl (by decide) (ok_ist3 3 rfl rfl rfl ?_)))
  refine lpO (fun k : Int => [some (vr 0), some (vi s), some (vi (sm (fun k => if 0 < σ 3 (64 * s + k) then 1 else 0) k.toNat)), some (vi k)]) (fun _ => σ) (fun k => 0 ≤ k ∧ k ≤ n * n) (fun k => (n * n - k).toNat) ?_ 0 ⟨by omega, by omega⟩
  rintro k ⟨k1, k2⟩ ih
  have hb := sm_bd (f := fun k => if 0 < σ 3 (64 * s + k) then 1 else 0) (B := 1) (by decide) (n := k.toNat) (fun k a b => by split <;> omega)
  refine ok_iload_n 4 rfl rfl rfl (ok_aload_n 5 rfl rfl rfl (ok_getR 6 rfl rfl fl_X12_7 rfl rfl (ok_iload_n 7 rfl rfl rfl (ok_iald 8 rfl rfl rfl (by first | omega | (simp [up_if]; omega) | (simp [up_if] at *; omega)) (ok_aload_n 9 rfl rfl rfl (ok_getR 10 rfl rfl fl_X12_7 rfl rfl (ok_iload_n 11 rfl rfl rfl (ok_iald 12 rfl rfl rfl (by first | omega | (simp [up_if]; omega) | (simp [up_if] at *; omega)) (ok_imul 13 rfl rfl (by rw [← en]; omega) ?_)))))))))
  rw [← en]
  refine ok_icmp_ge 14 52 rfl rfl rfl (fun h18 => ?_) (fun h18 => ?_)
  · refine ok_iload_n 33 rfl rfl rfl (ok_iret 34 rfl rfl rfl ?_)
    exact ⟨_, rfl, rfl, by unfold cntB; rw [← en, show k = n * n by omega]⟩
  · refine ok_iload_n 15 rfl rfl rfl (ok_aload_n 16 rfl rfl rfl (ok_getR 17 rfl rfl fl_X12_16 rfl rfl (ok_bipush 18 rfl rfl (by decide) (by decide) (ok_iload_n 19 rfl rfl rfl (ok_imul 20 rfl rfl (by first | omega | (simp [up_if]; omega) | (simp [up_if] at *; omega)) (ok_iload_n 21 rfl rfl rfl (ok_iadd 22 rfl rfl (by first | omega | (simp [up_if]; omega) | (simp [up_if] at *; omega)) (ok_iald 23 rfl rfl rfl (by first | omega | (simp [up_if]; omega) | (simp [up_if] at *; omega)) (ok_if_le 24 40 rfl rfl rfl (fun h33 => ?_) (fun h33 => ?_))))))))))
    · refine ok_iconst 27 rfl rfl (by decide) (ok_callSI (M' := M_Mo_one) (as := [_]) 28 rfl rfl ml_X12_192 (s_Mo_one) ⟨Nat.le_of_ble_eq_true rfl, Nat.le_of_ble_eq_true rfl⟩ rfl (Nat.le_of_ble_eq_true rfl) (fun σ' z1 hz1 => ?_))
      obtain ⟨hs_, hz1⟩ := hz1
      rw [hs_]; clear hs_ σ'
      have q3 : z1 = if 0 < σ 3 (64 * s + k) then 1 else 0 := by rw [hz1]; first | rw [if_pos (by omega), if_neg (by omega)] | rw [if_neg (by omega), if_pos (by omega)]
      have q4 : 0 ≤ z1 ∧ z1 ≤ 1 := by rw [q3]; split <;> omega
      refine ok_iadd 29 rfl rfl (by first | omega | (simp [up_if]; omega) | (simp [up_if] at *; omega)) (ok_ist2 30 rfl rfl rfl (ok_inc3 31 rfl rfl rfl (by first | omega | (simp [up_if]; omega) | (simp [up_if] at *; omega)) (ok_goto 32 4 rfl rfl rfl ?_)))
      have e := sm_s (fun k => if 0 < σ 3 (64 * s + k) then 1 else 0) k1
      rw [q3, ← e]
      exact ih (k + 1) ⟨by omega, by omega⟩ (by omega)
    · refine ok_iconst 25 rfl rfl (by decide) (ok_goto 26 41 rfl rfl rfl (ok_callSI (M' := M_Mo_one) (as := [_]) 28 rfl rfl ml_X12_192 (s_Mo_one) ⟨Nat.le_of_ble_eq_true rfl, Nat.le_of_ble_eq_true rfl⟩ rfl (Nat.le_of_ble_eq_true rfl) (fun σ' z1 hz1 => ?_)))
      obtain ⟨hs_, hz1⟩ := hz1
      rw [hs_]; clear hs_ σ'
      have q3 : z1 = if 0 < σ 3 (64 * s + k) then 1 else 0 := by rw [hz1]; first | rw [if_pos (by omega), if_neg (by omega)] | rw [if_neg (by omega), if_pos (by omega)]
      have q4 : 0 ≤ z1 ∧ z1 ≤ 1 := by rw [q3]; split <;> omega
      refine ok_iadd 29 rfl rfl (by first | omega | (simp [up_if]; omega) | (simp [up_if] at *; omega)) (ok_ist2 30 rfl rfl rfl (ok_inc3 31 rfl rfl rfl (by first | omega | (simp [up_if]; omega) | (simp [up_if] at *; omega)) (ok_goto 32 4 rfl rfl rfl ?_)))
      have e := sm_s (fun k => if 0 < σ 3 (64 * s + k) then 1 else 0) k1
      rw [q3, ← e]
      exact ih (k + 1) ⟨by omega, by omega⟩ (by omega)
def celB (σ : eS) (s i j : Int) : Prop := tabB σ s ∧ 0 ≤ i ∧ i < σ 1 s ∧ 0 ≤ j ∧ j < σ 1 s
theorem s_Mo_isCell {σ : eS} {s i j : Int} (hB : iB1 σ) : MtI shB M_Mo_isCell [vr 0, vi s, vi i, vi j] σ (fun σ' z => σ' = σ ∧ ((z = 1 ∧ celB σ s i j) ∨ (z = 0 ∧ ¬ celB σ s i j))) := by
  refine Mt.of okM_Mo_isCell (Nat.le_of_ble_eq_true rfl) (fun hk hg => ?_)
  by_cases ht : tabB σ s
  · obtain ⟨t1, t2, t3⟩ := id ht
    obtain ⟨g1, g2, -⟩ := hB.1 s t1 t2
    refine ok_aload_n 0 rfl rfl rfl (ok_iload_n 1 rfl rfl rfl (ok_callVI (M' := M_Mo_isTable) (as := [_]) 2 rfl rfl ml_X12_111 (s_Mo_isTable_y ht) rfl rfl (Nat.le_of_ble_eq_true rfl) ⟨Nat.le_of_ble_eq_true rfl, Nat.le_of_ble_eq_true rfl⟩ rfl (Nat.le_of_ble_eq_true rfl) (fun σ' z hz => ?_)))
    rw [hz.1, hz.2]
    clear hz z σ'
    refine ok_if_eq 3 48 rfl rfl rfl (fun h5 => ?_) (fun h5 => ?_)
    · omega
    · refine ok_iload_n 4 rfl rfl rfl (ok_i2l 5 rfl rfl (ok_lconst (w := 0) 6 rfl rfl rfl (by decide) (ok_aload_n 7 rfl rfl rfl (ok_getR 8 rfl rfl fl_X12_7 rfl rfl (ok_iload_n 9 rfl rfl rfl (ok_iald 10 rfl rfl rfl (by first | omega | (simp [up_if]; omega) | (simp [up_if] at *; omega)) (ok_iconst 11 rfl rfl (by decide) (ok_isub 12 rfl rfl (by first | omega | (simp [up_if]; omega) | (simp [up_if] at *; omega)) (ok_i2l 13 rfl rfl (ok_callSI (M' := M_Mo_isIn) (as := [_, _, _]) 14 rfl rfl ml_X12_99 (s_Mo_isIn) ⟨Nat.le_of_ble_eq_true rfl, Nat.le_of_ble_eq_true rfl⟩ rfl (Nat.le_of_ble_eq_true rfl) (fun σ' z1 h1 => ?_)))))))))))
      obtain ⟨hs_, h1⟩ := h1
      rw [hs_]; clear hs_ σ'
      refine ok_if_eq 15 48 rfl rfl rfl (fun h23 => ?_) (fun h23 => ?_)
      · refine ok_iconst 30 rfl rfl (by decide) (ok_zret 31 rfl rfl rfl (by first | omega | (simp [up_if]; omega) | (simp [up_if] at *; omega)) ?_)
        refine ⟨_, rfl, rfl, ?_⟩
        unfold celB
        simp only [ht, true_and]
        first | (split at h1 <;> split at h2 <;> omega) | (split at h1 <;> omega)
      · refine ok_iload_n 16 rfl rfl rfl (ok_i2l 17 rfl rfl (ok_lconst (w := 0) 18 rfl rfl rfl (by decide) (ok_aload_n 19 rfl rfl rfl (ok_getR 20 rfl rfl fl_X12_7 rfl rfl (ok_iload_n 21 rfl rfl rfl (ok_iald 22 rfl rfl rfl (by first | omega | (simp [up_if]; omega) | (simp [up_if] at *; omega)) (ok_iconst 23 rfl rfl (by decide) (ok_isub 24 rfl rfl (by first | omega | (simp [up_if]; omega) | (simp [up_if] at *; omega)) (ok_i2l 25 rfl rfl (ok_callSI (M' := M_Mo_isIn) (as := [_, _, _]) 26 rfl rfl ml_X12_99 (s_Mo_isIn) ⟨Nat.le_of_ble_eq_true rfl, Nat.le_of_ble_eq_true rfl⟩ rfl (Nat.le_of_ble_eq_true rfl) (fun σ' z2 h2 => ?_)))))))))))
        obtain ⟨hs_, h2⟩ := h2
        rw [hs_]; clear hs_ σ'
        refine ok_if_eq 27 48 rfl rfl rfl (fun h41 => ?_) (fun h41 => ?_)
        · refine ok_iconst 30 rfl rfl (by decide) (ok_zret 31 rfl rfl rfl (by first | omega | (simp [up_if]; omega) | (simp [up_if] at *; omega)) ?_)
          refine ⟨_, rfl, rfl, ?_⟩
          unfold celB
          simp only [ht, true_and]
          first | (split at h1 <;> split at h2 <;> omega) | (split at h1 <;> omega)
        · refine ok_iconst 28 rfl rfl (by decide) (ok_goto 29 49 rfl rfl rfl (ok_zret 31 rfl rfl rfl (by first | omega | (simp [up_if]; omega) | (simp [up_if] at *; omega)) ?_))
          refine ⟨_, rfl, rfl, ?_⟩
          unfold celB
          simp only [ht, true_and]
          first | (split at h1 <;> split at h2 <;> omega) | (split at h1 <;> omega)
  · refine ok_aload_n 0 rfl rfl rfl (ok_iload_n 1 rfl rfl rfl (ok_callVI (M' := M_Mo_isTable) (as := [_]) 2 rfl rfl ml_X12_111 (s_Mo_isTable_n ht) rfl rfl (Nat.le_of_ble_eq_true rfl) ⟨Nat.le_of_ble_eq_true rfl, Nat.le_of_ble_eq_true rfl⟩ rfl (Nat.le_of_ble_eq_true rfl) (fun σ' z hz => ?_)))
    rw [hz.1, hz.2]
    clear hz z σ'
    refine ok_if_eq 3 48 rfl rfl rfl (fun h5 => ?_) (fun h5 => ?_)
    · refine ok_iconst 30 rfl rfl (by decide) (ok_zret 31 rfl rfl rfl (by first | omega | (simp [up_if]; omega) | (simp [up_if] at *; omega)) ?_)
      exact ⟨_, rfl, rfl, Or.inr ⟨rfl, fun q => ht q.1⟩⟩
    · omega
theorem s_Mo_cell {σ : eS} {s i j : Int} (hB : iB1 σ) : MtI shB M_Mo_cell [vr 0, vi s, vi i, vi j] σ (fun σ' z => σ' = σ ∧ ((celB σ s i j ∧ z = cB σ s i j) ∨ (¬ celB σ s i j ∧ z = -1))) := by
  refine Mt.of okM_Mo_cell (Nat.le_of_ble_eq_true rfl) (fun hk hg => ?_)
  refine ok_aload_n 0 rfl rfl rfl (ok_iload_n 1 rfl rfl rfl (ok_iload_n 2 rfl rfl rfl (ok_iload_n 3 rfl rfl rfl (ok_callVI (M' := M_Mo_isCell) (as := [_, _, _]) 4 rfl rfl ml_X12_211 (s_Mo_isCell hB) rfl rfl (Nat.le_of_ble_eq_true rfl) ⟨Nat.le_of_ble_eq_true rfl, Nat.le_of_ble_eq_true rfl⟩ rfl (Nat.le_of_ble_eq_true rfl) (fun σ' z hz => ?_)))))
  obtain ⟨hs_, hz⟩ := hz
  rw [hs_]; clear hs_ σ'
  refine ok_if_eq 5 20 rfl rfl rfl (fun h7 => ?_) (fun h7 => ?_)
  · refine ok_iconst 12 rfl rfl (by decide) (ok_iret 13 rfl rfl rfl ?_)
    first | exact ⟨_, rfl, rfl, Or.inl ⟨hc, rfl⟩⟩ | (rcases hz with q | q; exact absurd h7 (by omega); exact ⟨_, rfl, rfl, Or.inr ⟨q.2, rfl⟩⟩)
  · have hc : celB σ s i j := by
      rcases hz with q | q
      · exact q.2
      · omega
    refine ok_aload_n 6 rfl rfl rfl (ok_iload_n 7 rfl rfl rfl (ok_iload_n 8 rfl rfl rfl (ok_iload_n 9 rfl rfl rfl (ok_callVI (M' := M_Mo_at) (as := [_, _, _]) 10 rfl rfl ml_X12_107 (s_Mo_at hB ⟨hc.1.1, hc.1.2.1⟩ ⟨hc.2.1, hc.2.2.1⟩ hc.2.2.2) rfl rfl (Nat.le_of_ble_eq_true rfl) ⟨Nat.le_of_ble_eq_true rfl, Nat.le_of_ble_eq_true rfl⟩ rfl (Nat.le_of_ble_eq_true rfl) (fun σ' z hz => ?_)))))
    rw [hz.1, hz.2]
    clear hz z σ'
    refine ok_goto 11 21 rfl rfl rfl (ok_iret 13 rfl rfl rfl ?_)
    first | exact ⟨_, rfl, rfl, Or.inl ⟨hc, rfl⟩⟩ | (rcases hz with q | q; exact absurd h7 (by omega); exact ⟨_, rfl, rfl, Or.inr ⟨q.2, rfl⟩⟩)
end
section
abbrev rgM : Nat → Int → Prop := fun c k => (c = 0 ∧ k = 4) ∨ c = 1 ∨ c = 2 ∨ c = 3 ∨ c = 4
def QM (σ : eS) (σ' : eS) (z : Int) : Prop := fr rgM σ σ' ∧ iB1 σ' ∧ (z = 0 ∨ z = 1)
theorem Qtk.M {τ σ' : eS} {s n z : Int} (hB : iB1 τ) (hs : 0 ≤ s ∧ s < 4) (hn : 0 ≤ n ∧ n ≤ 8) (hb : 1 ≤ τ 0 4) (hf : ∀ k, 0 ≤ k → k < n * n → 0 ≤ τ 4 k) (h : Qtk τ s n σ' z) : QM τ σ' z := by
  rcases h with ⟨hz, rfl, -⟩ | ⟨hz, rfl, hft⟩
  · exact ⟨fr.rf, hB, Or.inl hz⟩
  · refine ⟨fun c k q => ?_, ?_, Or.inr hz⟩
    · simp only [rgM] at q
      simp only [tw]
      rw [if_neg (by omega), if_neg (by omega), if_neg (by omega)]
    · obtain ⟨gp, gl⟩ := gF_bd hb (n * n).toNat
      refine tw_B hB hs hn (fun q => ?_) (fun k a b => ?_)
      · rw [if_neg (by omega)]
        exact ⟨(gcd_div hb gp gl).1, hft.1⟩
      · exact ⟨Int.ediv_nonneg (hf k a b) (by omega), hft.2 k a b⟩
theorem QM.tr {σ τ σ' : eS} {z : Int} (f : fr rgM σ τ) (h : QM τ σ' z) : QM σ σ' z := ⟨f.tr h.1, h.2⟩
theorem s_Mo_isPart {σ : eS} {x y : Int} : MtI shB M_Mo_isPart [vi x, vi y] σ (fun σ' z => σ' = σ ∧ ((z = 1 ∧ 0 ≤ x ∧ x ≤ 9999 ∧ 1 ≤ y ∧ y ≤ 9999) ∨ (z = 0 ∧ ¬ (0 ≤ x ∧ x ≤ 9999 ∧ 1 ≤ y ∧ y ≤ 9999)))) := by
  refine Mt.of okM_Mo_isPart (Nat.le_of_ble_eq_true rfl) (fun hk hg => ?_)
  refine ok_iload_n 0 rfl rfl rfl (ok_i2l 1 rfl rfl (ok_lconst (w := 0) 2 rfl rfl rfl (by decide) (ok_ldc2 3 (9999) rfl rfl kc_X12_215 (by decide) (ok_callSI (M' := M_Mo_isIn) (as := [_, _, _]) 4 rfl rfl ml_X12_99 (s_Mo_isIn) ⟨Nat.le_of_ble_eq_true rfl, Nat.le_of_ble_eq_true rfl⟩ rfl (Nat.le_of_ble_eq_true rfl) (fun σ' z1 h1 => ?_)))))
  obtain ⟨hs_, h1⟩ := h1
  rw [hs_]; clear hs_ σ'
  refine ok_if_eq 5 28 rfl rfl rfl (fun h9 => ?_) (fun h9 => ?_)
  · refine ok_iconst 14 rfl rfl (by decide) (ok_zret 15 rfl rfl rfl (by first | omega | (simp [up_if]; omega) | (simp [up_if] at *; omega)) ?_)
    refine ⟨_, rfl, rfl, ?_⟩
    first | (split at h1 <;> split at h2 <;> omega) | (split at h1 <;> omega)
  · refine ok_iload_n 6 rfl rfl rfl (ok_i2l 7 rfl rfl (ok_lconst (w := 1) 8 rfl rfl rfl (by decide) (ok_ldc2 9 (9999) rfl rfl kc_X12_215 (by decide) (ok_callSI (M' := M_Mo_isIn) (as := [_, _, _]) 10 rfl rfl ml_X12_99 (s_Mo_isIn) ⟨Nat.le_of_ble_eq_true rfl, Nat.le_of_ble_eq_true rfl⟩ rfl (Nat.le_of_ble_eq_true rfl) (fun σ' z2 h2 => ?_)))))
    obtain ⟨hs_, h2⟩ := h2
    rw [hs_]; clear hs_ σ'
    refine ok_if_eq 11 28 rfl rfl rfl (fun h21 => ?_) (fun h21 => ?_)
    · refine ok_iconst 14 rfl rfl (by decide) (ok_zret 15 rfl rfl rfl (by first | omega | (simp [up_if]; omega) | (simp [up_if] at *; omega)) ?_)
      refine ⟨_, rfl, rfl, ?_⟩
      first | (split at h1 <;> split at h2 <;> omega) | (split at h1 <;> omega)
    · refine ok_iconst 12 rfl rfl (by decide) (ok_goto 13 29 rfl rfl rfl (ok_zret 15 rfl rfl rfl (by first | omega | (simp [up_if]; omega) | (simp [up_if] at *; omega)) ?_))
      refine ⟨_, rfl, rfl, ?_⟩
      first | (split at h1 <;> split at h2 <;> omega) | (split at h1 <;> omega)
theorem s_Mo_grown {σ : eS} {b c : Int} (hb : 0 ≤ b ∧ b ≤ 99999999999999) (hc : 0 ≤ c ∧ c ≤ 99999999) : MtL shB M_Mo_grown [vl b, vl c] σ (fun σ' z => σ' = σ ∧ ((z = -1 ∧ 1000000000000000 < b * c) ∨ (z = b * c ∧ b * c ≤ 1000000000000000 ∧ 0 ≤ b * c))) := by
  refine Mt.of okM_Mo_grown (Nat.le_of_ble_eq_true rfl) (fun hk hg => ?_)
  obtain ⟨m1, m2⟩ := mul_bd hb hc
  refine ok_lload_n 0 rfl rfl rfl (ok_lconst (w := 0) 1 rfl rfl rfl (by decide) (ok_lcmp_le 2 3 22 rfl rfl rfl rfl rfl (fun h2 => ?_) (fun h2 => ?_)))
  · refine ok_lload_n 12 rfl rfl rfl (ok_lload_n 13 rfl rfl rfl (ok_lmul 14 rfl rfl (by rw [show c = 0 by omega]; omega) (ok_lret 15 rfl rfl rfl ?_)))
    exact ⟨_, rfl, rfl, Or.inr ⟨rfl, by rw [show c = 0 by omega]; omega, by omega⟩⟩
  · refine ok_lload_n 4 rfl rfl rfl (ok_ldc2 5 (1000000000000000) rfl rfl kc_X12_217 (by decide) (ok_lload_n 6 rfl rfl rfl (ok_ldiv 7 rfl rfl (by omega) (by omega) (ok_lcmp_le 8 9 22 rfl rfl rfl rfl rfl (fun h12 => ?_) (fun h12 => ?_)))))
    · have hm : b * c ≤ 1000000000000000 := by
        have := (Int.le_ediv_iff_mul_le (by omega : 0 < c)).mp h12
        omega
      refine ok_lload_n 12 rfl rfl rfl (ok_lload_n 13 rfl rfl rfl (ok_lmul 14 rfl rfl (by first | omega | (simp [up_if]; omega) | (simp [up_if] at *; omega)) (ok_lret 15 rfl rfl rfl ?_)))
      exact ⟨_, rfl, rfl, Or.inr ⟨rfl, hm, by omega⟩⟩
    · refine ok_ldc2 10 (-1) rfl rfl kc_X12_219 (by decide) (ok_goto 11 25 rfl rfl rfl (ok_lret 15 rfl rfl rfl ?_))
      exact ⟨_, rfl, rfl, Or.inl ⟨rfl, Int.not_le.mp (fun q => by
        have := (Int.le_ediv_iff_mul_le (by omega : 0 < c)).mpr q
        omega)⟩⟩
theorem s_Mo_behind {σ : eS} {k r n : Int} (h : 0 ≤ k ∧ k < n ∧ n ≤ 8 ∧ 0 ≤ r ∧ r < n) : MtI shB M_Mo_behind [vi k, vi r, vi n] σ (fun σ' z => σ' = σ ∧ z = if k < r then k else if k = r then n - 1 else k - 1) := by
  refine Mt.of okM_Mo_behind (Nat.le_of_ble_eq_true rfl) (fun hk hg => ?_)
  refine ok_iload_n 0 rfl rfl rfl (ok_iload_n 1 rfl rfl rfl (ok_icmp_ge 2 9 rfl rfl rfl (fun h2 => ?_) (fun h2 => ?_)))
  · refine ok_iload_n 5 rfl rfl rfl (ok_iload_n 6 rfl rfl rfl (ok_icmp_ne 7 20 rfl rfl rfl (fun h11 => ?_) (fun h11 => ?_)))
    · refine ok_iload_n 12 rfl rfl rfl (ok_iconst 13 rfl rfl (by decide) (ok_isub 14 rfl rfl (by first | omega | (simp [up_if]; omega) | (simp [up_if] at *; omega)) (ok_iret 15 rfl rfl rfl ?_)))
      refine ⟨_, rfl, rfl, ?_⟩
      first | rw [if_pos (by omega)] | rw [if_neg (by omega), if_pos (by omega)] | rw [if_neg (by omega), if_neg (by omega)]
    · refine ok_iload_n 8 rfl rfl rfl (ok_iconst 9 rfl rfl (by decide) (ok_isub 10 rfl rfl (by first | omega | (simp [up_if]; omega) | (simp [up_if] at *; omega)) (ok_goto 11 23 rfl rfl rfl (ok_iret 15 rfl rfl rfl ?_))))
      refine ⟨_, rfl, rfl, ?_⟩
      first | rw [if_pos (by omega)] | rw [if_neg (by omega), if_pos (by omega)] | rw [if_neg (by omega), if_neg (by omega)]
  · refine ok_iload_n 3 rfl rfl rfl (ok_goto 4 23 rfl rfl rfl (ok_iret 15 rfl rfl rfl ?_))
    refine ⟨_, rfl, rfl, ?_⟩
    first | rw [if_pos (by omega)] | rw [if_neg (by omega), if_pos (by omega)] | rw [if_neg (by omega), if_neg (by omega)]
theorem iB1_M {σ τ : eS} (h : iB1 σ) (f : fr (fun c k => (c = 0 ∧ k = 4) ∨ c = 4) σ τ) (g : ∀ k : Int, 0 ≤ k → k < 64 → 0 ≤ τ 4 k) : iB1 τ ∧ ∀ t, τ 1 t = σ 1 t ∧ τ 2 t = σ 2 t :=
  ⟨⟨fun t a b => by rw [f 1 t (by omega), f 2 t (by omega)]; exact h.1 t a b, fun k a b => by rw [f 3 k (by omega)]; exact h.2.1 k a b, g⟩, fun t => ⟨f 1 t (by omega), f 2 t (by omega)⟩⟩
end
section
theorem s_Mo_isTable_r {σ : eS} {s : Int} : MtI shB M_Mo_isTable [vr 0, vi s] σ (fun σ' z => σ' = σ ∧ ((z = 1 ∧ tabB σ s) ∨ (z = 0 ∧ ¬ tabB σ s))) := by
  by_cases h : tabB σ s
  · exact (s_Mo_isTable_y h).weaken (fun σ' v q => by obtain ⟨z, h1, h2, h3⟩ := q; exact ⟨z, h1, h2, Or.inl ⟨h3, h⟩⟩)
  · exact (s_Mo_isTable_n h).weaken (fun σ' v q => by obtain ⟨z, h1, h2, h3⟩ := q; exact ⟨z, h1, h2, Or.inr ⟨h3, h⟩⟩)
theorem s_Mo_isSlot_r {σ : eS} {s : Int} : MtI shB M_Mo_isSlot [vi s] σ (fun σ' z => σ' = σ ∧ ((z = 1 ∧ 0 ≤ s ∧ s < 4) ∨ (z = 0 ∧ ¬ (0 ≤ s ∧ s < 4)))) := by
  by_cases h : 0 ≤ s ∧ s < 4
  · exact (s_Mo_isSlot_y h).weaken (fun σ' v q => by obtain ⟨z, h1, h2, h3⟩ := q; exact ⟨z, h1, h2, Or.inl ⟨h3, h⟩⟩)
  · exact (s_Mo_isSlot_n h).weaken (fun σ' v q => by obtain ⟨z, h1, h2, h3⟩ := q; exact ⟨z, h1, h2, Or.inr ⟨h3, h⟩⟩)
theorem s_Mo_isIn_r {σ : eS} {v a b : Int} : MtI shB M_Mo_isIn [vl v, vl a, vl b] σ (fun σ' z => σ' = σ ∧ ((z = 1 ∧ a ≤ v ∧ v ≤ b) ∨ (z = 0 ∧ ¬ (a ≤ v ∧ v ≤ b)))) := by
  by_cases h : a ≤ v ∧ v ≤ b
  · exact (s_Mo_isIn_y h).weaken (fun σ' v q => by obtain ⟨z, h1, h2, h3⟩ := q; exact ⟨z, h1, h2, Or.inl ⟨h3, h⟩⟩)
  · exact (s_Mo_isIn_n h).weaken (fun σ' v q => by obtain ⟨z, h1, h2, h3⟩ := q; exact ⟨z, h1, h2, Or.inr ⟨h3, h⟩⟩)
/-- what a test says, where it isn't 0 -/
theorem yes1 {z : Int} {P : Prop} (h : (z = 1 ∧ P) ∨ (z = 0 ∧ ¬ P)) (hz : ¬ z = 0) : P := by
  rcases h with q | q
  · exact q.2
  · exact absurd q.1 hz
theorem no1 {z : Int} {P : Prop} (h : (z = 1 ∧ P) ∨ (z = 0 ∧ ¬ P)) (hz : z = 0) : ¬ P := by
  rcases h with q | q
  · omega
  · exact q.2
end
section
/-! small sets as numbers below 256 -/
theorem fin2 {P : Int → Int → Prop} (h : ∀ s : Fin 256, ∀ j : Fin 8, P (s.val : Int) (j.val : Int)) {s j : Int} (h1 : 0 ≤ s) (h2 : s < 256) (h3 : 0 ≤ j) (h4 : j < 8) : P s j := by
  obtain ⟨a, rfl⟩ := Int.eq_ofNat_of_zero_le h1
  obtain ⟨b, rfl⟩ := Int.eq_ofNat_of_zero_le h3
  exact h ⟨a, by omega⟩ ⟨b, by omega⟩
theorem fin1 {P : Int → Prop} (h : ∀ s : Fin 256, P (s.val : Int)) {s : Int} (h1 : 0 ≤ s) (h2 : s < 256) : P s := by
  obtain ⟨a, rfl⟩ := Int.eq_ofNat_of_zero_le h1
  exact h ⟨a, by omega⟩
theorem fin9 {P : Int → Int → Prop} (h : ∀ s : Fin 256, ∀ j : Fin 9, P (s.val : Int) (j.val : Int)) {s j : Int} (h1 : 0 ≤ s) (h2 : s < 256) (h3 : 0 ≤ j) (h4 : j ≤ 8) : P s j := by
  obtain ⟨a, rfl⟩ := Int.eq_ofNat_of_zero_le h1
  obtain ⟨b, rfl⟩ := Int.eq_ofNat_of_zero_le h3
  exact h ⟨a, by omega⟩ ⟨b, by omega⟩
def bt (s j : Int) : Bool := s.toNat.testBit j.toNat
def sB (s j : Int) : Int := ((s.toNat ||| 2 ^ j.toNat : Nat) : Int)
def pc (s : Int) : Int := s % 2 + s / 2 % 2 + s / 4 % 2 + s / 8 % 2 + s / 16 % 2 + s / 32 % 2 + s / 64 % 2 + s / 128 % 2
def p2 (n : Int) : Int := ((2 ^ n.toNat : Nat) : Int)
theorem bit_get : ∀ s : Fin 256, ∀ j : Fin 8, iand (ishr (s.val : Int) (j.val : Int)) 1 = if bt (s.val : Int) (j.val : Int) = true then 1 else 0 := by decide +kernel
theorem bit_put : ∀ s : Fin 256, ∀ j : Fin 8, ior (s.val : Int) (ishl 1 (j.val : Int)) = sB (s.val : Int) (j.val : Int) := by decide +kernel
theorem bit_pc : ∀ s : Fin 256, ∀ j : Fin 8, bt (s.val : Int) (j.val : Int) = false → pc (sB (s.val : Int) (j.val : Int)) = pc (s.val : Int) + 1 ∧ (s.val : Int) < sB (s.val : Int) (j.val : Int) := by decide +kernel
theorem bit_lt : ∀ s : Fin 256, ∀ n : Fin 9, ((s.val : Int) < p2 (n.val : Int) - 1 → pc (s.val : Int) < (n.val : Int)) ∧ ((s.val : Int) = p2 (n.val : Int) - 1 → pc (s.val : Int) = (n.val : Int)) ∧ 0 ≤ pc (s.val : Int) ∧ pc (s.val : Int) ≤ 8 := by decide +kernel
theorem bit_half : ∀ s : Fin 256, pc (s.val : Int) = (s.val : Int) % 2 + pc ((s.val : Int) / 2) := by decide +kernel
theorem p2_bd : ∀ n : Fin 9, ishl 1 (n.val : Int) = p2 (n.val : Int) ∧ 1 ≤ p2 (n.val : Int) ∧ p2 (n.val : Int) ≤ 256 ∧ (1 ≤ (n.val : Int) → 2 ≤ p2 (n.val : Int)) := by decide +kernel
theorem bitG {s j : Int} (h1 : 0 ≤ s ∧ s < 256) (h2 : 0 ≤ j ∧ j < 8) : iand (ishr s j) 1 = if bt s j = true then 1 else 0 := fin2 (P := fun s j => iand (ishr s j) 1 = if bt s j = true then 1 else 0) bit_get h1.1 h1.2 h2.1 h2.2
theorem bitP {s j : Int} (h1 : 0 ≤ s ∧ s < 256) (h2 : 0 ≤ j ∧ j < 8) : ior s (ishl 1 j) = sB s j := fin2 (P := fun s j => ior s (ishl 1 j) = sB s j) bit_put h1.1 h1.2 h2.1 h2.2
theorem bitC {s j : Int} (h1 : 0 ≤ s ∧ s < 256) (h2 : 0 ≤ j ∧ j < 8) (h : bt s j = false) : pc (sB s j) = pc s + 1 ∧ s < sB s j := fin2 (P := fun s j => bt s j = false → pc (sB s j) = pc s + 1 ∧ s < sB s j) bit_pc h1.1 h1.2 h2.1 h2.2 h
theorem bitL {s n : Int} (h1 : 0 ≤ s ∧ s < 256) (h2 : 0 ≤ n ∧ n ≤ 8) : (s < p2 n - 1 → pc s < n) ∧ (s = p2 n - 1 → pc s = n) ∧ 0 ≤ pc s ∧ pc s ≤ 8 := fin9 (P := fun s n => (s < p2 n - 1 → pc s < n) ∧ (s = p2 n - 1 → pc s = n) ∧ 0 ≤ pc s ∧ pc s ≤ 8) bit_lt h1.1 h1.2 h2.1 h2.2
theorem bitH {s : Int} (h1 : 0 ≤ s ∧ s < 256) : pc s = s % 2 + pc (s / 2) := fin1 (P := fun s => pc s = s % 2 + pc (s / 2)) bit_half h1.1 h1.2
theorem bit2 {n : Int} (h : 0 ≤ n ∧ n ≤ 8) : ishl 1 n = p2 n ∧ 1 ≤ p2 n ∧ p2 n ≤ 256 ∧ (1 ≤ n → 2 ≤ p2 n) := by
  obtain ⟨b, rfl⟩ := Int.eq_ofNat_of_zero_le h.1
  exact p2_bd ⟨b, by omega⟩
theorem bt_sB {s j k : Int} (hj : 0 ≤ j) (hk : 0 ≤ k) : bt (sB s j) k = (bt s k || decide (k = j)) := by
  unfold bt sB
  rw [Int.toNat_natCast, Nat.testBit_or, Nat.testBit_two_pow]
  congr 1
  by_cases h : k = j
  · subst h; simp
  · have : j.toNat ≠ k.toNat := by omega
    simp [h, this]
theorem sB_lt {s j n : Int} (h1 : 0 ≤ s ∧ s < p2 n) (h2 : 0 ≤ j ∧ j < n) : 0 ≤ sB s j ∧ sB s j < p2 n := by
  refine ⟨by unfold sB; omega, ?_⟩
  unfold sB p2 at *
  have a : s.toNat < 2 ^ n.toNat := by omega
  have b : 2 ^ j.toNat < 2 ^ n.toNat := Nat.pow_lt_pow_right (by decide) (by omega)
  have := Nat.or_lt_two_pow a b
  omega
theorem bt_0 (j : Int) : bt 0 j = false := by simp [bt]
/-! existence of a pairing by weights: rows of a set find different columns -/
def s2 (f : Nat → Int) : Nat → Int
  | 0 => 0
  | n + 1 => s2 f n + f n
theorem s2_cg {f g : Nat → Int} : ∀ {n : Nat}, (∀ k, k < n → f k = g k) → s2 f n = s2 g n
  | 0, _ => rfl
  | n + 1, h => by
    show s2 f n + f n = s2 g n + g n
    rw [s2_cg (fun k hk => h k (by omega)), h n (by omega)]
theorem s2_le {f g : Nat → Int} : ∀ {n : Nat}, (∀ k, k < n → f k ≤ g k) → s2 f n ≤ s2 g n
  | 0, _ => Int.le_refl _
  | n + 1, h => by
    have h1 := s2_le (n := n) (fun k hk => h k (by omega))
    have h2 := h n (by omega)
    show s2 f n + f n ≤ s2 g n + g n
    omega
theorem s2_add (f g : Nat → Int) : ∀ n, s2 (fun k => f k + g k) n = s2 f n + s2 g n
  | 0 => rfl
  | n + 1 => by
    have h := s2_add f g n
    show s2 (fun k => f k + g k) n + (f n + g n) = s2 f n + f n + (s2 g n + g n)
    omega
theorem s2_sub (f g : Nat → Int) : ∀ n, s2 (fun k => f k - g k) n = s2 f n - s2 g n
  | 0 => rfl
  | n + 1 => by
    have h := s2_sub f g n
    show s2 (fun k => f k - g k) n + (f n - g n) = s2 f n + f n - (s2 g n + g n)
    omega
theorem s2_mul (f : Nat → Int) (c : Int) : ∀ n, s2 (fun k => f k * c) n = s2 f n * c
  | 0 => by show (0 : Int) = 0 * c; omega
  | n + 1 => by
    have h := s2_mul f c n
    show s2 (fun k => f k * c) n + f n * c = (s2 f n + f n) * c
    rw [h, Int.add_mul]
theorem s2_0 : ∀ n, s2 (fun _ => 0) n = 0
  | 0 => rfl
  | n + 1 => by
    show s2 (fun _ => 0) n + 0 = 0
    rw [s2_0 n]; rfl
theorem s2_nn {f : Nat → Int} {n : Nat} (h : ∀ k, k < n → 0 ≤ f k) : 0 ≤ s2 f n := by
  have := s2_le (f := fun _ => 0) (g := f) (n := n) h
  rwa [s2_0] at this
theorem s2_swap (f : Nat → Nat → Int) (m : Nat) : ∀ n, s2 (fun i => s2 (f i) m) n = s2 (fun j => s2 (fun i => f i j) n) m
  | 0 => by
    show (0 : Int) = s2 (fun _ => 0) m
    rw [s2_0]
  | n + 1 => by
    have h := s2_swap f m n
    show s2 (fun i => s2 (f i) m) n + s2 (f n) m = s2 (fun j => s2 (fun i => f i j) n + f n j) m
    rw [h, s2_add]
/-- one place alone -/
theorem s2_one {x : Nat} (v : Nat → Int) : ∀ {n : Nat}, x < n → s2 (fun k => if k = x then v k else 0) n = v x
  | n + 1, h => by
    show s2 (fun k => if k = x then v k else 0) n + (if n = x then v n else 0) = v x
    by_cases q : n = x
    · subst q
      rw [if_pos rfl]
      have : s2 (fun k => if k = n then v k else 0) n = s2 (fun _ => 0) n := s2_cg (fun k hk => if_neg (by omega))
      rw [this, s2_0]
      omega
    · rw [if_neg q, s2_one v (by omega)]
      omega
theorem s2_part {f : Nat → Int} {x : Nat} : ∀ {n : Nat}, (∀ k, k < n → 0 ≤ f k) → x < n → f x ≤ s2 f n
  | n + 1, h, hx => by
    have h1 := s2_nn (f := f) (n := n) (fun k hk => h k (by omega))
    have h2 := h n (by omega)
    show f x ≤ s2 f n + f n
    by_cases q : x = n
    · subst q; omega
    · have := s2_part (n := n) (fun k hk => h k (by omega)) (by omega : x < n)
      omega
end
section
def anyN (p : Nat → Bool) : Nat → Bool
  | 0 => false
  | n + 1 => anyN p n || p n
theorem anyN_iff {p : Nat → Bool} : ∀ {n : Nat}, anyN p n = true ↔ ∃ k, k < n ∧ p k = true
  | 0 => by
    constructor
    · intro h; cases h
    · rintro ⟨k, h, -⟩; omega
  | n + 1 => by
    show (anyN p n || p n) = true ↔ _
    rw [Bool.or_eq_true, anyN_iff (n := n)]
    constructor
    · rintro (⟨k, h1, h2⟩ | h)
      · exact ⟨k, by omega, h2⟩
      · exact ⟨n, by omega, h⟩
    · rintro ⟨k, h1, h2⟩
      by_cases q : k = n
      · exact Or.inr (q ▸ h2)
      · exact Or.inl ⟨k, by omega, h2⟩
/-- the rows of X have different joined columns by f -/
def Mch (n : Nat) (op : Nat → Nat → Bool) (X : Nat → Bool) (f : Nat → Nat) : Prop := (∀ r, r < n → X r = true → f r < n ∧ op r (f r) = true) ∧ (∀ r r', r < n → r' < n → X r = true → X r' = true → f r = f r' → r = r')
/-- rows that an unpaired row x comes to, by changing pairs -/
def rch (n : Nat) (op : Nat → Nat → Bool) (X : Nat → Bool) (f : Nat → Nat) (x : Nat) : Nat → Nat → Bool
  | 0, r => decide (r = x)
  | d + 1, r => rch n op X f x d r || (X r && anyN (fun r1 => rch n op X f x d r1 && op r1 (f r)) n)
theorem rch_mono {n : Nat} {op : Nat → Nat → Bool} {X : Nat → Bool} {f : Nat → Nat} {x r : Nat} : ∀ {d' d : Nat}, d' ≤ d → rch n op X f x d' r = true → rch n op X f x d r = true := by
  intro d' d h
  induction d with
  | zero => intro q; rwa [show d' = 0 by omega] at q
  | succ d ih =>
    intro q
    by_cases e : d' = d + 1
    · rw [e] at q; exact q
    · show (rch n op X f x d r || _) = true
      rw [ih (by omega) q]; rfl
theorem rch_keep {n : Nat} {op : Nat → Nat → Bool} {X : Nat → Bool} {f : Nat → Nat} {x r c d : Nat} (hr : rch n op X f x d r = false) : ∀ d', d' ≤ d → ∀ r', rch n op X f x d' r' = true → rch n op X (fun k => if k = r then c else f k) x d' r' = true := by
  intro d'
  induction d' with
  | zero => intro _ r' h; exact h
  | succ d' ih =>
    intro hd r' h
    have hne : r' ≠ r := fun q => by
      have := rch_mono hd h
      rw [q, hr] at this
      cases this
    have h1 : (rch n op X f x d' r' || (X r' && anyN (fun r1 => rch n op X f x d' r1 && op r1 (f r')) n)) = true := h
    show (rch n op X (fun k => if k = r then c else f k) x d' r' || (X r' && anyN (fun r1 => rch n op X (fun k => if k = r then c else f k) x d' r1 && op r1 (if r' = r then c else f r')) n)) = true
    rw [if_neg hne]
    rw [Bool.or_eq_true] at h1 ⊢
    rcases h1 with h1 | h1
    · exact Or.inl (ih (by omega) r' h1)
    · refine Or.inr ?_
      rw [Bool.and_eq_true] at h1 ⊢
      refine ⟨h1.1, anyN_iff.mpr ?_⟩
      obtain ⟨r1, a, b⟩ := anyN_iff.mp h1.2
      rw [Bool.and_eq_true] at b
      exact ⟨r1, a, by rw [Bool.and_eq_true]; exact ⟨ih (by omega) r1 b.1, b.2⟩⟩
theorem aug {n : Nat} {op : Nat → Nat → Bool} {X : Nat → Bool} {x : Nat} (hx : x < n) (hX : X x = false) : ∀ (d : Nat) (f : Nat → Nat) (r c : Nat), Mch n op X f → r < n → c < n → rch n op X f x d r = true → op r c = true → (∀ r', r' < n → X r' = true → f r' ≠ c) → ∃ f', Mch n op (fun k => X k || decide (k = x)) f' := by
  intro d
  induction d with
  | zero =>
    intro f r c hm hr hc h ho hf
    have e : r = x := of_decide_eq_true h
    subst e
    refine ⟨fun k => if k = r then c else f k, fun k hk hX' => ?_, fun k k' hk hk' h1 h2 he => ?_⟩
    · dsimp only at hX' ⊢
      by_cases q : k = r
      · rw [if_pos q, q]; exact ⟨hc, ho⟩
      · rw [if_neg q]
        simp [q] at hX'
        exact hm.1 k hk hX'
    · dsimp only at h1 h2 he
      by_cases q : k = r
      · by_cases q' : k' = r
        · rw [q, q']
        · rw [if_pos q, if_neg q'] at he
          simp [q'] at h2
          exact absurd he.symm (hf k' hk' h2)
      · by_cases q' : k' = r
        · rw [if_neg q, if_pos q'] at he
          simp [q] at h1
          exact absurd he (hf k hk h1)
        · rw [if_neg q, if_neg q'] at he
          simp [q] at h1
          simp [q'] at h2
          exact hm.2 k k' hk hk' h1 h2 he
  | succ d ih =>
    intro f r c hm hr hc h ho hf
    cases hd : rch n op X f x d r with
    | true => exact ih f r c hm hr hc hd ho hf
    | false =>
      have h1 : (rch n op X f x d r || (X r && anyN (fun r1 => rch n op X f x d r1 && op r1 (f r)) n)) = true := h
      rw [hd, Bool.false_or, Bool.and_eq_true] at h1
      obtain ⟨r1, a1, a2⟩ := anyN_iff.mp h1.2
      rw [Bool.and_eq_true] at a2
      have hXr := h1.1
      have hfr := hm.1 r hr hXr
      refine ih (fun k => if k = r then c else f k) r1 (f r) ⟨fun k hk hk2 => ?_, fun k k' hk hk' b1 b2 he => ?_⟩ a1 hfr.1 (rch_keep hd d (Nat.le_refl _) r1 a2.1) a2.2 (fun r' hr' hXr' => ?_)
      · dsimp only
        by_cases q : k = r
        · rw [if_pos q, q]; exact ⟨hc, ho⟩
        · rw [if_neg q]; exact hm.1 k hk hk2
      · dsimp only at he
        by_cases q : k = r
        · by_cases q' : k' = r
          · rw [q, q']
          · rw [if_pos q, if_neg q'] at he
            exact absurd he.symm (hf k' hk' b2)
        · by_cases q' : k' = r
          · rw [if_neg q, if_pos q'] at he
            exact absurd he (hf k hk b1)
          · rw [if_neg q, if_neg q'] at he
            exact hm.2 k k' hk hk' b1 b2 he
      · by_cases q : r' = r
        · rw [if_pos q]
          exact fun z => hf r hr hXr z.symm
        · rw [if_neg q]
          exact fun z => q (hm.2 r' r hr' hr hXr' hXr z)
/-- weights: rows A, columns B; a row's columns of B have m less e, a column's rows m at most; e together below m -/
theorem grow {n : Nat} {w : Nat → Nat → Int} {A B X : Nat → Bool} {e : Nat → Int} {m : Int} {x : Nat} {f : Nat → Nat} (hw : ∀ r c, r < n → c < n → 0 ≤ w r c) (he : ∀ r, r < n → 0 ≤ e r)
    (h1 : ∀ r, r < n → A r = true → m - e r ≤ s2 (fun c => if B c = true then w r c else 0) n) (h2 : ∀ c, c < n → B c = true → s2 (fun r => if A r = true then w r c else 0) n ≤ m) (h3 : s2 (fun r => if A r = true then e r else 0) n < m)
    (hm : Mch n (fun r c => decide (0 < w r c) && B c) X f) (hXA : ∀ r, r < n → X r = true → A r = true) (hx : x < n) (hX : X x = false) (hA : A x = true) : ∃ f', Mch n (fun r c => decide (0 < w r c) && B c) (fun k => X k || decide (k = x)) f' := by
  obtain ⟨op, eop⟩ : ∃ op : Nat → Nat → Bool, op = fun r c => decide (0 < w r c) && B c := ⟨_, rfl⟩
  rw [← eop] at hm ⊢
  by_cases hfree : ∃ d r c, r < n ∧ c < n ∧ rch n op X f x d r = true ∧ op r c = true ∧ ∀ r', r' < n → X r' = true → f r' ≠ c
  · obtain ⟨d, r, c, a1, a2, a3, a4, a5⟩ := hfree
    exact aug hx hX d f r c hm a1 a2 a3 a4 a5
  · exfalso
    obtain ⟨R, hR⟩ : ∃ R : Nat → Bool, ∀ r, R r = true ↔ ∃ d, rch n op X f x d r = true := ⟨fun r => @decide (∃ d, rch n op X f x d r = true) (Classical.propDecidable _), fun r => by simp⟩
    have hRx : R x = true := (hR x).mpr ⟨0, by show decide (x = x) = true; simp⟩
    have hRX : ∀ r, r < n → R r = true → r ≠ x → X r = true := by
      intro r hr hrr hne
      obtain ⟨d, hd⟩ := (hR r).mp hrr
      induction d with
      | zero => exact absurd (of_decide_eq_true hd) hne
      | succ d ih =>
        have : (rch n op X f x d r || (X r && anyN (fun r1 => rch n op X f x d r1 && op r1 (f r)) n)) = true := hd
        rw [Bool.or_eq_true] at this
        rcases this with q | q
        · exact ih q
        · rw [Bool.and_eq_true] at q; exact q.1
    have hRA : ∀ r, r < n → R r = true → A r = true := fun r hr h => by
      by_cases q : r = x
      · rw [q]; exact hA
      · exact hXA r hr (hRX r hr h q)
    have close : ∀ r c, r < n → c < n → R r = true → op r c = true → ∃ r2, r2 < n ∧ R r2 = true ∧ X r2 = true ∧ f r2 = c := by
      intro r c hr hc hrr ho
      obtain ⟨d, hd⟩ := (hR r).mp hrr
      by_cases q : ∃ r2, r2 < n ∧ X r2 = true ∧ f r2 = c
      · obtain ⟨r2, b1, b2, b3⟩ := q
        refine ⟨r2, b1, (hR r2).mpr ⟨d + 1, ?_⟩, b2, b3⟩
        show (rch n op X f x d r2 || (X r2 && anyN (fun r1 => rch n op X f x d r1 && op r1 (f r2)) n)) = true
        rw [b2, Bool.true_and, Bool.or_eq_true]
        exact Or.inr (anyN_iff.mpr ⟨r, hr, by rw [Bool.and_eq_true, b3]; exact ⟨hd, ho⟩⟩)
      · exact absurd ⟨d, r, c, hr, hc, hd, ho, fun r' g1 g2 g3 => q ⟨r', g1, g2, g3⟩⟩ hfree
    -- what the rows of R have lies in columns of R and X
    have key : ∀ r, r < n → R r = true → s2 (fun c => if B c = true then w r c else 0) n ≤ s2 (fun r2 => if R r2 = true ∧ X r2 = true then w r (f r2) else 0) n := by
      intro r hr hrr
      have t1 : s2 (fun c => if B c = true then w r c else 0) n ≤ s2 (fun c => s2 (fun r2 => if R r2 = true ∧ X r2 = true ∧ f r2 = c then w r c else 0) n) n := by
        refine s2_le (fun c hc => ?_)
        have nn : ∀ k, k < n → 0 ≤ (if R k = true ∧ X k = true ∧ f k = c then w r c else 0) := fun k hk => by
          split
          · exact hw r c hr hc
          · exact Int.le_refl _
        by_cases hp : 0 < w r c ∧ B c = true
        · rw [if_pos hp.2]
          obtain ⟨r2, b1, b2, b3, b4⟩ := close r c hr hc hrr (by rw [eop]; simp [hp.1, hp.2])
          have := s2_part (f := fun k => if R k = true ∧ X k = true ∧ f k = c then w r c else 0) nn b1
          rw [if_pos ⟨b2, b3, b4⟩] at this
          exact this
        · have h0 := s2_nn nn
          have h00 := hw r c hr hc
          split
          · next q => have : ¬ 0 < w r c := fun z => hp ⟨z, q⟩; omega
          · exact h0
      refine Int.le_trans t1 ?_
      rw [s2_swap (fun c r2 => if R r2 = true ∧ X r2 = true ∧ f r2 = c then w r c else 0) n n]
      refine s2_le (fun r2 hr2 => ?_)
      by_cases q : R r2 = true ∧ X r2 = true
      · rw [if_pos q]
        have e1 : s2 (fun c => if R r2 = true ∧ X r2 = true ∧ f r2 = c then w r c else 0) n = s2 (fun c => if c = f r2 then w r c else 0) n := s2_cg (fun c hc => by
          by_cases z : c = f r2
          · rw [if_pos z, if_pos ⟨q.1, q.2, z.symm⟩]
          · rw [if_neg z, if_neg (fun y => z y.2.2.symm)])
        rw [e1, s2_one (fun c => w r c) (hm.1 r2 hr2 q.2).1]
        exact Int.le_refl _
      · rw [if_neg q]
        have e1 : s2 (fun c => if R r2 = true ∧ X r2 = true ∧ f r2 = c then w r c else 0) n = s2 (fun _ => 0) n := s2_cg (fun c hc => if_neg (fun y => q ⟨y.1, y.2.1⟩))
        rw [e1, s2_0]
        exact Int.le_refl _
    have c1 : s2 (fun r => if R r = true then m - e r else 0) n ≤ s2 (fun r => if R r = true then s2 (fun r2 => if R r2 = true ∧ X r2 = true then w r (f r2) else 0) n else 0) n := s2_le (fun r hr => by
      by_cases q : R r = true
      · rw [if_pos q, if_pos q]; exact Int.le_trans (h1 r hr (hRA r hr q)) (key r hr q)
      · rw [if_neg q, if_neg q]; exact Int.le_refl _)
    have c2 : s2 (fun r => if R r = true then s2 (fun r2 => if R r2 = true ∧ X r2 = true then w r (f r2) else 0) n else 0) n = s2 (fun r2 => s2 (fun r => if R r = true then (if R r2 = true ∧ X r2 = true then w r (f r2) else 0) else 0) n) n := by
      rw [← s2_swap (fun r r2 => if R r = true then (if R r2 = true ∧ X r2 = true then w r (f r2) else 0) else 0) n n]
      refine s2_cg (fun r hr => ?_)
      by_cases q : R r = true
      · rw [if_pos q]
        exact s2_cg (fun r2 _ => by rw [if_pos q])
      · rw [if_neg q]
        have : s2 (fun r2 => if R r = true then (if R r2 = true ∧ X r2 = true then w r (f r2) else 0) else 0) n = s2 (fun _ => 0) n := s2_cg (fun r2 _ => if_neg q)
        rw [this, s2_0]
    have c3 : s2 (fun r2 => s2 (fun r => if R r = true then (if R r2 = true ∧ X r2 = true then w r (f r2) else 0) else 0) n) n ≤ s2 (fun r2 => if R r2 = true ∧ X r2 = true then m else 0) n := s2_le (fun r2 hr2 => by
      by_cases q : R r2 = true ∧ X r2 = true
      · rw [if_pos q]
        have hf2 := hm.1 r2 hr2 q.2
        have hB2 : B (f r2) = true := by
          have := hf2.2
          rw [eop] at this
          simp at this
          exact this.2
        refine Int.le_trans (s2_le (fun r hr => ?_)) (h2 (f r2) hf2.1 hB2)
        by_cases z : R r = true
        · rw [if_pos z, if_pos q, if_pos (hRA r hr z)]; exact Int.le_refl _
        · rw [if_neg z]
          split
          · exact hw r (f r2) hr hf2.1
          · exact Int.le_refl _
      · rw [if_neg q]
        have : s2 (fun r => if R r = true then (if R r2 = true ∧ X r2 = true then w r (f r2) else 0) else 0) n = s2 (fun _ => 0) n := s2_cg (fun r _ => by rw [if_neg q]; split <;> rfl)
        rw [this, s2_0]
        exact Int.le_refl _)
    have c4 : s2 (fun r => if R r = true then m - e r else 0) n = s2 (fun r => if R r = true ∧ X r = true then m else 0) n + m - s2 (fun r => if R r = true then e r else 0) n := by
      have e1 : s2 (fun r => if R r = true then m - e r else 0) n = s2 (fun r => ((if R r = true ∧ X r = true then m else 0) + (if r = x then m else 0)) - (if R r = true then e r else 0)) n := s2_cg (fun r hr => by
        by_cases q : r = x
        · subst q
          rw [if_pos hRx, if_pos hRx, if_pos rfl, if_neg (by rw [hX]; simp)]
          omega
        · by_cases z : R r = true
          · rw [if_pos z, if_pos z, if_neg q, if_pos ⟨z, hRX r hr z q⟩]
            omega
          · rw [if_neg z, if_neg z, if_neg q, if_neg (fun y => z y.1)]
            omega)
      rw [e1, s2_sub, s2_add, s2_one (fun _ => m) hx]
    have c5 : s2 (fun r => if R r = true then e r else 0) n ≤ s2 (fun r => if A r = true then e r else 0) n := s2_le (fun r hr => by
      by_cases z : R r = true
      · rw [if_pos z, if_pos (hRA r hr z)]; exact Int.le_refl _
      · rw [if_neg z]
        split
        · exact he r hr
        · exact Int.le_refl _)
    omega
theorem hall {n : Nat} {w : Nat → Nat → Int} {A B : Nat → Bool} {e : Nat → Int} {m : Int} (hw : ∀ r c, r < n → c < n → 0 ≤ w r c) (he : ∀ r, r < n → 0 ≤ e r)
    (h1 : ∀ r, r < n → A r = true → m - e r ≤ s2 (fun c => if B c = true then w r c else 0) n) (h2 : ∀ c, c < n → B c = true → s2 (fun r => if A r = true then w r c else 0) n ≤ m) (h3 : s2 (fun r => if A r = true then e r else 0) n < m) : ∃ f, Mch n (fun r c => decide (0 < w r c) && B c) A f := by
  have key : ∀ k, k ≤ n → ∃ f, Mch n (fun r c => decide (0 < w r c) && B c) (fun r => A r && decide (r < k)) f := by
    intro k
    induction k with
    | zero =>
      intro _
      exact ⟨fun _ => 0, fun r hr h => by simp at h, fun r r' hr hr' h => by simp at h⟩
    | succ k ih =>
      intro hk
      obtain ⟨f, hf⟩ := ih (by omega)
      cases hA : A k with
      | false =>
        have cv : ∀ r, (A r && decide (r < k + 1)) = true → (A r && decide (r < k)) = true := fun r h => by
          rw [Bool.and_eq_true] at h ⊢
          refine ⟨h.1, decide_eq_true ?_⟩
          have h2 := of_decide_eq_true h.2
          have h3 : r ≠ k := fun q => by rw [q, hA] at h; cases h.1
          omega
        exact ⟨f, fun r hr h => hf.1 r hr (cv r h), fun r r' hr hr' g g' => hf.2 r r' hr hr' (cv r g) (cv r' g')⟩
      | true =>
        obtain ⟨f', hf'⟩ := grow (X := fun r => A r && decide (r < k)) (x := k) hw he h1 h2 h3 hf (fun r _ h => by rw [Bool.and_eq_true] at h; exact h.1) (by omega) (by simp) hA
        have cv : ∀ r, (A r && decide (r < k + 1)) = true → ((A r && decide (r < k)) || decide (r = k)) = true := fun r h => by
          rw [Bool.and_eq_true] at h
          have h2 := of_decide_eq_true h.2
          by_cases q : r = k
          · simp [q]
          · have : r < k := by omega
            simp [h.1, this]
        exact ⟨f', fun r hr h => hf'.1 r hr (cv r h), fun r r' hr hr' g g' => hf'.2 r r' hr hr' (cv r g) (cv r' g')⟩
  obtain ⟨f, hf⟩ := key n (Nat.le_refl _)
  exact ⟨f, fun r hr h => hf.1 r hr (by simp [h, hr]), fun r r' hr hr' g g' => hf.2 r r' hr hr' (by simp [g, hr]) (by simp [g', hr'])⟩
end
