theorem lt_ext {P : Int → Prop} {a i : Int} (h : ∀ k, a ≤ k → k < i → P k) (hi : P i) : ∀ k, a ≤ k → k < i + 1 → P k := fun k h1 h2 => by
  by_cases q : k = i
  · rw [q]; exact hi
  · exact h k h1 (by omega)
def unev (row col : Int → Int) (n z : Int) : Prop :=
  (∃ i, 1 ≤ i ∧ i < n ∧ z = i ∧ row i ≠ row 0 ∧ ∀ k, 1 ≤ k → k < i → row k = row 0) ∨
  ((∀ k, 1 ≤ k → k < n → row k = row 0) ∧ ((∃ j, 0 ≤ j ∧ j < n ∧ z = 8 + j ∧ col j ≠ row 0 ∧ ∀ k, 0 ≤ k → k < j → col k = row 0) ∨ (z = -1 ∧ ∀ k, 0 ≤ k → k < n → col k = row 0)))
theorem s_Mo_uneven {σ : eS} {s : Int} (hB : iB1 σ) : MtI shB M_Mo_uneven [vr 0, vi s] σ (fun σ' z => σ' = σ ∧ ((¬ tabB σ s ∧ z = -1) ∨ (tabB σ s ∧ unev (rowB σ s) (colB σ s) (σ 1 s) z))) := by
  refine Mt.of okM_Mo_uneven (Nat.le_of_ble_eq_true rfl) (fun hk hg => ?_)
  by_cases ht : tabB σ s
  · obtain ⟨t1, t2, t3⟩ := id ht
    obtain ⟨g1, g2, -⟩ := hB.1 s t1 t2
    refine ok_aload_n 0 rfl rfl rfl (ok_iload_n 1 rfl rfl rfl (ok_callVI (M' := M_Mo_isTable) (as := [_]) 2 rfl rfl ml_X12_111 (s_Mo_isTable_y ht) rfl rfl (Nat.le_of_ble_eq_true rfl) ⟨Nat.le_of_ble_eq_true rfl, Nat.le_of_ble_eq_true rfl⟩ rfl (Nat.le_of_ble_eq_true rfl) (fun σ' z hz => ?_)))
    rw [hz.1, hz.2]
    clear hz z σ'
    refine ok_if_ne 3 10 rfl rfl rfl (fun h5 => ?_) (fun h5 => ?_)
    · refine ok_iconst 6 rfl rfl (by decide) (ok_ist2 7 rfl rfl rfl ?_)
      refine lpO (fun q : Int => [some (vr 0), some (vi s), some (vi q)]) (fun _ => σ) (fun q => 1 ≤ q ∧ q ≤ σ 1 s ∧ ∀ k, 1 ≤ k → k < q → rowB σ s k = rowB σ s 0) (fun q => (σ 1 s - q).toNat) ?_ 1 ⟨by omega, by omega, fun k a b => by omega⟩
      rintro i ⟨h1, h2, h3⟩ ih
      refine ok_iload_n 8 rfl rfl rfl (ok_aload_n 9 rfl rfl rfl (ok_getR 10 rfl rfl fl_X12_7 rfl rfl (ok_iload_n 11 rfl rfl rfl (ok_iald 12 rfl rfl rfl (by first | omega | (simp [up_if]; omega) | (simp [up_if] at *; omega)) (ok_icmp_ge 13 46 rfl rfl rfl (fun h19 => ?_) (fun h19 => ?_))))))
      · refine ok_iconst 28 rfl rfl (by decide) (ok_ist2 29 rfl rfl rfl ?_)
        have hr : ∀ k, 1 ≤ k → k < σ 1 s → rowB σ s k = rowB σ s 0 := fun k a b => h3 k a (by omega)
        refine lpO (fun q : Int => [some (vr 0), some (vi s), some (vi q)]) (fun _ => σ) (fun q => 0 ≤ q ∧ q ≤ σ 1 s ∧ ∀ k, 0 ≤ k → k < q → colB σ s k = rowB σ s 0) (fun q => (σ 1 s - q).toNat) ?_ 0 ⟨by omega, by omega, fun k a b => by omega⟩
        rintro j ⟨h1, h2, h3⟩ ih
        refine ok_iload_n 30 rfl rfl rfl (ok_aload_n 31 rfl rfl rfl (ok_getR 32 rfl rfl fl_X12_7 rfl rfl (ok_iload_n 33 rfl rfl rfl (ok_iald 34 rfl rfl rfl (by first | omega | (simp [up_if]; omega) | (simp [up_if] at *; omega)) (ok_icmp_ge 35 85 rfl rfl rfl (fun h55 => ?_) (fun h55 => ?_))))))
        · refine ok_iconst 52 rfl rfl (by decide) (ok_iret 53 rfl rfl rfl ?_)
          exact ⟨_, rfl, rfl, Or.inr ⟨ht, Or.inr ⟨hr, Or.inr ⟨rfl, fun k a b => h3 k a (by omega)⟩⟩⟩⟩
        · refine ok_aload_n 36 rfl rfl rfl (ok_iload_n 37 rfl rfl rfl (ok_iload_n 38 rfl rfl rfl (ok_callVL (M' := M_Mo_columnOf) (as := [_, _]) 39 rfl rfl ml_X12_122 (s_Mo_columnOf hB ⟨t1, t2⟩ ⟨by omega, by omega⟩) rfl rfl (Nat.le_of_ble_eq_true rfl) ⟨Nat.le_of_ble_eq_true rfl, Nat.le_of_ble_eq_true rfl⟩ rfl (Nat.le_of_ble_eq_true rfl) (fun σ' z hz => ?_))))
          rw [hz.1, hz.2]
          clear hz z σ'
          refine ok_aload_n 40 rfl rfl rfl (ok_iload_n 41 rfl rfl rfl (ok_iconst 42 rfl rfl (by decide) (ok_callVL (M' := M_Mo_rowOf) (as := [_, _]) 43 rfl rfl ml_X12_114 (s_Mo_rowOf hB ⟨t1, t2⟩ ⟨by omega, by omega⟩) rfl rfl (Nat.le_of_ble_eq_true rfl) ⟨Nat.le_of_ble_eq_true rfl, Nat.le_of_ble_eq_true rfl⟩ rfl (Nat.le_of_ble_eq_true rfl) (fun σ' z hz => ?_))))
          rw [hz.1, hz.2]
          clear hz z σ'
          refine ok_lcmp_eq 44 45 79 rfl rfl rfl rfl rfl (fun h70 => ?_) (fun h70 => ?_)
          · refine ok_inc2 50 rfl rfl rfl (by first | omega | (simp [up_if]; omega) | (simp [up_if] at *; omega)) (ok_goto 51 48 rfl rfl rfl ?_)
            exact ih (j + 1) ⟨by omega, by omega, lt_ext h3 h70⟩ (by omega)
          · refine ok_bipush 46 rfl rfl (by decide) (by decide) (ok_iload_n 47 rfl rfl rfl (ok_iadd 48 rfl rfl (by first | omega | (simp [up_if]; omega) | (simp [up_if] at *; omega)) (ok_iret 49 rfl rfl rfl ?_)))
            exact ⟨_, rfl, rfl, Or.inr ⟨ht, Or.inr ⟨hr, Or.inl ⟨j, h1, by omega, rfl, h70, h3⟩⟩⟩⟩
      · refine ok_aload_n 14 rfl rfl rfl (ok_iload_n 15 rfl rfl rfl (ok_iload_n 16 rfl rfl rfl (ok_callVL (M' := M_Mo_rowOf) (as := [_, _]) 17 rfl rfl ml_X12_114 (s_Mo_rowOf hB ⟨t1, t2⟩ ⟨by omega, by omega⟩) rfl rfl (Nat.le_of_ble_eq_true rfl) ⟨Nat.le_of_ble_eq_true rfl, Nat.le_of_ble_eq_true rfl⟩ rfl (Nat.le_of_ble_eq_true rfl) (fun σ' z hz => ?_))))
        rw [hz.1, hz.2]
        clear hz z σ'
        refine ok_aload_n 18 rfl rfl rfl (ok_iload_n 19 rfl rfl rfl (ok_iconst 20 rfl rfl (by decide) (ok_callVL (M' := M_Mo_rowOf) (as := [_, _]) 21 rfl rfl ml_X12_114 (s_Mo_rowOf hB ⟨t1, t2⟩ ⟨by omega, by omega⟩) rfl rfl (Nat.le_of_ble_eq_true rfl) ⟨Nat.le_of_ble_eq_true rfl, Nat.le_of_ble_eq_true rfl⟩ rfl (Nat.le_of_ble_eq_true rfl) (fun σ' z hz => ?_))))
        rw [hz.1, hz.2]
        clear hz z σ'
        refine ok_lcmp_eq 22 23 40 rfl rfl rfl rfl rfl (fun h34 => ?_) (fun h34 => ?_)
        · refine ok_inc2 26 rfl rfl rfl (by first | omega | (simp [up_if]; omega) | (simp [up_if] at *; omega)) (ok_goto 27 12 rfl rfl rfl ?_)
          exact ih (i + 1) ⟨by omega, by omega, lt_ext h3 h34⟩ (by omega)
        · refine ok_iload_n 24 rfl rfl rfl (ok_iret 25 rfl rfl rfl ?_)
          exact ⟨_, rfl, rfl, Or.inr ⟨ht, Or.inl ⟨i, h1, by omega, rfl, h34, h3⟩⟩⟩
    · omega
  · refine ok_aload_n 0 rfl rfl rfl (ok_iload_n 1 rfl rfl rfl (ok_callVI (M' := M_Mo_isTable) (as := [_]) 2 rfl rfl ml_X12_111 (s_Mo_isTable_n ht) rfl rfl (Nat.le_of_ble_eq_true rfl) ⟨Nat.le_of_ble_eq_true rfl, Nat.le_of_ble_eq_true rfl⟩ rfl (Nat.le_of_ble_eq_true rfl) (fun σ' z hz => ?_)))
    rw [hz.1, hz.2]
    clear hz z σ'
    refine ok_if_ne 3 10 rfl rfl rfl (fun h5 => ?_) (fun h5 => ?_)
    · omega
    · refine ok_iconst 4 rfl rfl (by decide) (ok_iret 5 rfl rfl rfl ?_)
      exact ⟨_, rfl, rfl, Or.inl ⟨ht, rfl⟩⟩
def evB (σ : eS) (s : Int) : Prop := tabB σ s ∧ 0 < rowB σ s 0 ∧ (∀ k, 0 ≤ k → k < σ 1 s → rowB σ s k = rowB σ s 0) ∧ (∀ k, 0 ≤ k → k < σ 1 s → colB σ s k = rowB σ s 0)
theorem unev_m1 {row col : Int → Int} {n z : Int} (h : unev row col n z) : z = -1 ↔ ((∀ k, 0 ≤ k → k < n → row k = row 0) ∧ ∀ k, 0 ≤ k → k < n → col k = row 0) := by
  rcases h with ⟨i, h1, h2, rfl, h4, h5⟩ | ⟨h1, ⟨j, h2, h3, rfl, h5, h6⟩ | ⟨rfl, h3⟩⟩
  · exact ⟨fun q => by omega, fun q => absurd (q.1 z (by omega) h2) h4⟩
  · exact ⟨fun q => by omega, fun q => absurd (q.2 j h2 h3) h5⟩
  · refine ⟨fun _ => ⟨fun k a b => ?_, h3⟩, fun _ => rfl⟩
    by_cases q : k = 0
    · rw [q]
    · exact h1 k (by omega) b
theorem s_Mo_isEven {σ : eS} {s : Int} (hB : iB1 σ) : MtI shB M_Mo_isEven [vr 0, vi s] σ (fun σ' z => σ' = σ ∧ ((z = 1 ∧ evB σ s) ∨ (z = 0 ∧ ¬ evB σ s))) := by
  refine Mt.of okM_Mo_isEven (Nat.le_of_ble_eq_true rfl) (fun hk hg => ?_)
  by_cases ht : tabB σ s
  · obtain ⟨t1, t2, t3⟩ := id ht
    refine ok_aload_n 0 rfl rfl rfl (ok_iload_n 1 rfl rfl rfl (ok_callVI (M' := M_Mo_isTable) (as := [_]) 2 rfl rfl ml_X12_111 (s_Mo_isTable_y ht) rfl rfl (Nat.le_of_ble_eq_true rfl) ⟨Nat.le_of_ble_eq_true rfl, Nat.le_of_ble_eq_true rfl⟩ rfl (Nat.le_of_ble_eq_true rfl) (fun σ' z hz => ?_)))
    rw [hz.1, hz.2]
    clear hz z σ'
    refine ok_if_eq 3 32 rfl rfl rfl (fun h5 => ?_) (fun h5 => ?_)
    · omega
    · refine ok_aload_n 4 rfl rfl rfl (ok_iload_n 5 rfl rfl rfl (ok_iconst 6 rfl rfl (by decide) (ok_callVL (M' := M_Mo_rowOf) (as := [_, _]) 7 rfl rfl ml_X12_114 (s_Mo_rowOf hB ⟨t1, t2⟩ ⟨by omega, by omega⟩) rfl rfl (Nat.le_of_ble_eq_true rfl) ⟨Nat.le_of_ble_eq_true rfl, Nat.le_of_ble_eq_true rfl⟩ rfl (Nat.le_of_ble_eq_true rfl) (fun σ' z hz => ?_))))
      rw [hz.1, hz.2]
      clear hz z σ'
      refine ok_lconst (w := 0) 8 rfl rfl rfl (by decide) (ok_lcmp_le 9 10 32 rfl rfl rfl rfl rfl (fun h15 => ?_) (fun h15 => ?_))
      · refine ok_iconst 18 rfl rfl (by decide) (ok_zret 19 rfl rfl rfl (by omega) ?_)
        exact ⟨_, rfl, rfl, Or.inr ⟨rfl, fun q => by have := q.2.1; omega⟩⟩
      · refine ok_aload_n 11 rfl rfl rfl (ok_iload_n 12 rfl rfl rfl (ok_callVI (M' := M_Mo_uneven) (as := [_]) 13 rfl rfl ml_X12_118 (s_Mo_uneven hB) rfl rfl (Nat.le_of_ble_eq_true rfl) ⟨Nat.le_of_ble_eq_true rfl, Nat.le_of_ble_eq_true rfl⟩ rfl (Nat.le_of_ble_eq_true rfl) (fun σ' z hz => ?_)))
        obtain ⟨hs, hz⟩ := hz
        rw [hs]; clear hs σ'
        have hu : unev (rowB σ s) (colB σ s) (σ 1 s) z := by
          rcases hz with ⟨q, -⟩ | ⟨-, q⟩
          · exact absurd ht q
          · exact q
        have hm := unev_m1 hu
        refine ok_iconst 14 rfl rfl (by decide) (ok_icmp_ne 15 32 rfl rfl rfl (fun h25 => ?_) (fun h25 => ?_))
        · refine ok_iconst 18 rfl rfl (by decide) (ok_zret 19 rfl rfl rfl (by omega) ?_)
          exact ⟨_, rfl, rfl, Or.inr ⟨rfl, fun q => h25 (hm.mpr q.2.2)⟩⟩
        · refine ok_iconst 16 rfl rfl (by decide) (ok_goto 17 33 rfl rfl rfl (ok_zret 19 rfl rfl rfl (by first | omega | (simp [up_if]; omega) | (simp [up_if] at *; omega)) ?_))
          exact ⟨_, rfl, rfl, Or.inl ⟨rfl, ht, by omega, hm.mp h25⟩⟩
  · refine ok_aload_n 0 rfl rfl rfl (ok_iload_n 1 rfl rfl rfl (ok_callVI (M' := M_Mo_isTable) (as := [_]) 2 rfl rfl ml_X12_111 (s_Mo_isTable_n ht) rfl rfl (Nat.le_of_ble_eq_true rfl) ⟨Nat.le_of_ble_eq_true rfl, Nat.le_of_ble_eq_true rfl⟩ rfl (Nat.le_of_ble_eq_true rfl) (fun σ' z hz => ?_)))
    rw [hz.1, hz.2]
    clear hz z σ'
    refine ok_if_eq 3 32 rfl rfl rfl (fun h5 => ?_) (fun h5 => ?_)
    · refine ok_iconst 18 rfl rfl (by decide) (ok_zret 19 rfl rfl rfl (by first | omega | (simp [up_if]; omega) | (simp [up_if] at *; omega)) ?_)
      exact ⟨_, rfl, rfl, Or.inr ⟨rfl, fun q => ht q.1⟩⟩
    · omega
/-! the tape -/
def by4 (v k : Int) : Int := iand (ishr v (24 - 8 * k)) 255
def fo (σ : eS) (t v i : Int) : eS := fun c k => if c = 0 ∧ k = 6 then t + i else if c = 5 ∧ t ≤ k ∧ k < t + i then by4 v (k - t) else σ c k
theorem fo_0 {σ : eS} {t v : Int} (h : σ 0 6 = t) : fo σ t v 0 = σ := by
  funext c k
  unfold fo
  split
  · next q => rw [q.1, q.2]; omega
  · rw [if_neg (by omega)]
theorem fo_s {σ : eS} {t v i : Int} (h : 0 ≤ i) : up (up (fo σ t v i) 5 (t + i) (by4 v i)) 0 6 (t + i + 1) = fo σ t v (i + 1) := by
  funext c k
  simp only [up_if, fo]
  by_cases h1 : c = 0 ∧ k = 6
  · simp only [if_pos h1]
    omega
  · simp only [if_neg h1]
    by_cases h2 : c = 5 ∧ k = t + i
    · simp only [if_pos h2]
      rw [if_pos ⟨h2.1, by omega, by omega⟩, h2.2]
      congr 1
      omega
    · simp only [if_neg h2]
      by_cases h3 : c = 5 ∧ t ≤ k ∧ k < t + i
      · rw [if_pos h3, if_pos ⟨h3.1, by omega, by omega⟩]
      · rw [if_neg h3, if_neg (by omega)]
theorem fo_6 (σ : eS) (t v i : Int) : fo σ t v i 0 6 = t + i := by simp [fo]
theorem s_Mo_four {σ : eS} {v t : Int} (ht : σ 0 6 = t) (h0 : 0 ≤ t ∧ t ≤ 596) : MtV shB M_Mo_four [vr 0, vi v] σ (fun σ' => σ' = fo σ t v 4) := by
  refine Mt.of okM_Mo_four (Nat.le_of_ble_eq_true rfl) (fun hk hg => ?_)
  refine ok_bipush 0 rfl rfl (by decide) (by decide) (ok_ist2 1 rfl rfl rfl ?_)
  have e := fo_0 (v := v) ht
  suffices h : ∀ i : Int, 0 ≤ i ∧ i ≤ 4 → Ok shB M_Mo_four 3 [some (vr 0), some (vi v), some (vi (24 - 8 * i))] [] (fo σ t v i) (fun σ' w => w = none ∧ σ' = fo σ t v 4) by
    have := h 0 (by omega)
    rw [e] at this
    exact this
  refine fun i hi => lpO (fun i : Int => [some (vr 0), some (vi v), some (vi (24 - 8 * i))]) (fun i => fo σ t v i) (fun i => 0 ≤ i ∧ i ≤ 4) (fun i => (4 - i).toNat) ?_ i hi
  rintro i ⟨h1, h2⟩ ih
  have e6 := fo_6 σ t v i
  refine ok_iload_n 2 rfl rfl rfl (ok_if_lt 3 39 rfl rfl rfl (fun h4 => ?_) (fun h4 => ?_))
  · refine ok_vret 22 rfl rfl rfl ?_
    exact ⟨rfl, by rw [show i = 4 by omega]⟩
  · refine ok_aload_n 4 rfl rfl rfl (ok_getR 5 rfl rfl fl_X12_23 rfl rfl (ok_aload_n 6 rfl rfl rfl (ok_getI 7 rfl rfl fl_X12_125 rfl rfl (Or.inl rfl) (ok_iload_n 8 rfl rfl rfl (ok_iload_n 9 rfl rfl rfl (ok_ishr 10 rfl rfl (ok_sipush 11 rfl rfl (by decide) (by decide) (ok_iand 12 rfl rfl (ok_iast 13 rfl rfl rfl (by omega) (ok_aload_n 14 rfl rfl rfl (ok_dup 15 rfl rfl rfl (ok_getI 16 rfl rfl fl_X12_125 rfl rfl (Or.inl rfl) (ok_iconst 17 rfl rfl (by decide) (ok_iadd 18 rfl rfl (by rw [up_ne _ _ _ _ (by decide), e6]; omega) (ok_putI 19 rfl rfl fl_X12_125 rfl rfl rfl rfl (ok_inc2 20 rfl rfl rfl (by first | omega | (simp [up_if]; omega) | (simp [up_if] at *; omega)) (ok_goto 21 3 rfl rfl rfl ?_)))))))))))))))))
    have hh := ih (i + 1) ⟨by omega, by omega⟩ (by omega)
    rw [← fo_s h1] at hh
    rw [up_ne _ _ _ _ (by decide), e6]
    rw [show (24 : Int) - 8 * i + -8 = 24 - 8 * (i + 1) by omega]
    exact hh
def fd (σ : eS) (t a b c d e : Int) : eS := fo (fo (fo (fo (fo σ t a 4) (t + 4) b 4) (t + 8) c 4) (t + 12) d 4) (t + 16) e 4
theorem s_Mo_feed {σ : eS} {a b c d e : Int} (h0 : 0 ≤ σ 0 6 ∧ σ 0 6 ≤ 600) : MtI shB M_Mo_feed [vr 0, vi a, vi b, vi c, vi d, vi e] σ (fun σ' z => (σ 0 6 + 20 ≤ 600 ∧ σ' = fd σ (σ 0 6) a b c d e ∧ z = σ 0 6 + 20) ∨ (600 < σ 0 6 + 20 ∧ σ' = σ ∧ z = -1)) := by
  refine Mt.of okM_Mo_feed (Nat.le_of_ble_eq_true rfl) (fun hk hg => ?_)
  refine ok_aload_n 0 rfl rfl rfl (ok_getI 1 rfl rfl fl_X12_125 rfl rfl (Or.inl rfl) (ok_bipush 2 rfl rfl (by decide) (by decide) (ok_iadd 3 rfl rfl (by first | omega | (simp [up_if]; omega) | (simp [up_if] at *; omega)) (ok_sipush 4 rfl rfl (by decide) (by decide) (ok_icmp_le 5 15 rfl rfl rfl (fun h10 => ?_) (fun h10 => ?_))))))
  · refine ok_aload_n 8 rfl rfl rfl (ok_iload_n 9 rfl rfl rfl (ok_callVV (M' := M_Mo_four) (as := [_]) 10 rfl rfl ml_X12_128 (s_Mo_four rfl ⟨by omega, by omega⟩) rfl rfl (Nat.le_of_ble_eq_true rfl) ⟨Nat.le_of_ble_eq_true rfl, Nat.le_of_ble_eq_true rfl⟩ rfl (Nat.le_of_ble_eq_true rfl) (fun σ' hz => ?_)))
    rw [hz]
    clear hz σ'
    refine ok_aload_n 11 rfl rfl rfl (ok_iload_n 12 rfl rfl rfl (ok_callVV (M' := M_Mo_four) (as := [_]) 13 rfl rfl ml_X12_128 (s_Mo_four (t := σ 0 6 + 4) (fo_6 _ _ _ _) ⟨by omega, by omega⟩) rfl rfl (Nat.le_of_ble_eq_true rfl) ⟨Nat.le_of_ble_eq_true rfl, Nat.le_of_ble_eq_true rfl⟩ rfl (Nat.le_of_ble_eq_true rfl) (fun σ' hz => ?_)))
    rw [hz]
    clear hz σ'
    refine ok_aload_n 14 rfl rfl rfl (ok_iload_n 15 rfl rfl rfl (ok_callVV (M' := M_Mo_four) (as := [_]) 16 rfl rfl ml_X12_128 (s_Mo_four (t := σ 0 6 + 8) (by rw [fo_6]; omega) ⟨by omega, by omega⟩) rfl rfl (Nat.le_of_ble_eq_true rfl) ⟨Nat.le_of_ble_eq_true rfl, Nat.le_of_ble_eq_true rfl⟩ rfl (Nat.le_of_ble_eq_true rfl) (fun σ' hz => ?_)))
    rw [hz]
    clear hz σ'
    refine ok_aload_n 17 rfl rfl rfl (ok_iload 18 rfl rfl rfl (ok_callVV (M' := M_Mo_four) (as := [_]) 19 rfl rfl ml_X12_128 (s_Mo_four (t := σ 0 6 + 12) (by rw [fo_6]; omega) ⟨by omega, by omega⟩) rfl rfl (Nat.le_of_ble_eq_true rfl) ⟨Nat.le_of_ble_eq_true rfl, Nat.le_of_ble_eq_true rfl⟩ rfl (Nat.le_of_ble_eq_true rfl) (fun σ' hz => ?_)))
    rw [hz]
    clear hz σ'
    refine ok_aload_n 20 rfl rfl rfl (ok_iload 21 rfl rfl rfl (ok_callVV (M' := M_Mo_four) (as := [_]) 22 rfl rfl ml_X12_128 (s_Mo_four (t := σ 0 6 + 16) (by rw [fo_6]; omega) ⟨by omega, by omega⟩) rfl rfl (Nat.le_of_ble_eq_true rfl) ⟨Nat.le_of_ble_eq_true rfl, Nat.le_of_ble_eq_true rfl⟩ rfl (Nat.le_of_ble_eq_true rfl) (fun σ' hz => ?_)))
    rw [hz]
    clear hz σ'
    refine ok_aload_n 23 rfl rfl rfl (ok_getI 24 rfl rfl fl_X12_125 rfl rfl (Or.inl rfl) (ok_iret 25 rfl rfl rfl ?_))
    exact ⟨_, rfl, Or.inl ⟨by omega, rfl, by rw [fo_6]; omega⟩⟩
  · refine ok_iconst 6 rfl rfl (by decide) (ok_iret 7 rfl rfl rfl ?_)
    exact ⟨_, rfl, Or.inr ⟨by omega, rfl, rfl⟩⟩
theorem s_Mo_end {σ : eS} {n : Int} : MtI shB M_Mo_end [vr 0, vi n] σ (fun σ' z => (0 ≤ n ∧ n ≤ σ 0 6 ∧ σ' = up σ 0 6 n ∧ z = 1) ∨ (¬ (0 ≤ n ∧ n ≤ σ 0 6) ∧ σ' = σ ∧ z = 0)) := by
  refine Mt.of okM_Mo_end (Nat.le_of_ble_eq_true rfl) (fun hk hg => ?_)
  by_cases h : 0 ≤ n ∧ n ≤ σ 0 6
  · refine ok_iload_n 0 rfl rfl rfl (ok_i2l 1 rfl rfl (ok_lconst (w := 0) 2 rfl rfl rfl (by decide) (ok_aload_n 3 rfl rfl rfl (ok_getI 4 rfl rfl fl_X12_125 rfl rfl (Or.inl rfl) (ok_i2l 5 rfl rfl (ok_callSI (M' := M_Mo_isIn) (as := [_, _, _]) 6 rfl rfl ml_X12_99 (s_Mo_isIn) ⟨Nat.le_of_ble_eq_true rfl, Nat.le_of_ble_eq_true rfl⟩ rfl (Nat.le_of_ble_eq_true rfl) (fun σ' z hz => ?_)))))))
    rw [hz.1, hz.2]; clear hz z σ'
    rw [if_pos h]
    refine ok_if_ne 7 16 rfl rfl rfl (fun h11 => ?_) (fun h11 => ?_)
    · refine ok_aload_n 10 rfl rfl rfl (ok_iload_n 11 rfl rfl rfl (ok_putI 12 rfl rfl fl_X12_125 rfl rfl rfl rfl (ok_iconst 13 rfl rfl (by decide) (ok_zret 14 rfl rfl rfl (by first | omega | (simp [up_if]; omega) | (simp [up_if] at *; omega)) ?_))))
      exact ⟨_, rfl, Or.inl ⟨h.1, h.2, rfl, rfl⟩⟩
    · omega
  · refine ok_iload_n 0 rfl rfl rfl (ok_i2l 1 rfl rfl (ok_lconst (w := 0) 2 rfl rfl rfl (by decide) (ok_aload_n 3 rfl rfl rfl (ok_getI 4 rfl rfl fl_X12_125 rfl rfl (Or.inl rfl) (ok_i2l 5 rfl rfl (ok_callSI (M' := M_Mo_isIn) (as := [_, _, _]) 6 rfl rfl ml_X12_99 (s_Mo_isIn) ⟨Nat.le_of_ble_eq_true rfl, Nat.le_of_ble_eq_true rfl⟩ rfl (Nat.le_of_ble_eq_true rfl) (fun σ' z hz => ?_)))))))
    rw [hz.1, hz.2]; clear hz z σ'
    rw [if_neg h]
    refine ok_if_ne 7 16 rfl rfl rfl (fun h11 => ?_) (fun h11 => ?_)
    · omega
    · refine ok_iconst 8 rfl rfl (by decide) (ok_zret 9 rfl rfl rfl (by first | omega | (simp [up_if]; omega) | (simp [up_if] at *; omega)) ?_)
      exact ⟨_, rfl, Or.inr ⟨h, rfl, rfl⟩⟩
def seeB (σ : eS) (k : Int) : Int := if k < σ 0 6 then σ 5 k else -1
theorem s_Mo_see {σ : eS} {k : Int} (h0 : 0 ≤ k) (h6 : σ 0 6 ≤ 600) : MtI shB M_Mo_see [vr 0, vi k] σ (fun σ' z => σ' = σ ∧ z = seeB σ k) := by
  refine Mt.of okM_Mo_see (Nat.le_of_ble_eq_true rfl) (fun hk hg => ?_)
  refine ok_iload_n 0 rfl rfl rfl (ok_aload_n 1 rfl rfl rfl (ok_getI 2 rfl rfl fl_X12_125 rfl rfl (Or.inl rfl) (ok_icmp_ge 3 17 rfl rfl rfl (fun h5 => ?_) (fun h5 => ?_))))
  · refine ok_iconst 9 rfl rfl (by decide) (ok_iret 10 rfl rfl rfl ?_)
    exact ⟨_, rfl, rfl, by unfold seeB; first | rw [if_pos (by omega)] | rw [if_neg (by omega)]⟩
  · refine ok_aload_n 4 rfl rfl rfl (ok_getR 5 rfl rfl fl_X12_23 rfl rfl (ok_iload_n 6 rfl rfl rfl (ok_iald 7 rfl rfl rfl (by first | omega | (simp [up_if]; omega) | (simp [up_if] at *; omega)) (ok_goto 8 18 rfl rfl rfl (ok_iret 10 rfl rfl rfl ?_)))))
    exact ⟨_, rfl, rfl, by unfold seeB; first | rw [if_pos (by omega)] | rw [if_neg (by omega)]⟩
