theorem s_Mo_one {σ : eS} {b : Int} : MtI shB M_Mo_one [vi b] σ (fun σ' z => σ' = σ ∧ z = if b = 0 then 0 else 1) := by
  refine Mt.of okM_Mo_one (Nat.le_of_ble_eq_true rfl) (fun hk hg => ?_)
  refine ok_iload_n 0 rfl rfl rfl (ok_if_eq 1 8 rfl rfl rfl (fun h1 => ?_) (fun h1 => ?_))
  · refine ok_iconst 4 rfl rfl (by decide) (ok_iret 5 rfl rfl rfl ?_)
    exact ⟨_, rfl, rfl, by simp [*]⟩
  · refine ok_iconst 2 rfl rfl (by decide) (ok_goto 3 9 rfl rfl rfl (ok_iret 5 rfl rfl rfl ?_))
    exact ⟨_, rfl, rfl, by simp [*]⟩
theorem s_Mo_isIn {σ : eS} {v a b : Int} : MtI shB M_Mo_isIn [vl v, vl a, vl b] σ (fun σ' z => σ' = σ ∧ z = if a ≤ v ∧ v ≤ b then 1 else 0) := by
  refine Mt.of okM_Mo_isIn (Nat.le_of_ble_eq_true rfl) (fun hk hg => ?_)
  refine ok_lload_n 0 rfl rfl rfl (ok_lload_n 1 rfl rfl rfl (ok_lcmp_lt 2 3 17 rfl rfl rfl rfl rfl (fun h2 => ?_) (fun h2 => ?_)))
  · refine ok_iconst 10 rfl rfl (by decide) (ok_zret 11 rfl rfl rfl (by first | omega | (simp [up_if]; omega) | (simp [up_if] at *; omega)) ?_)
    exact ⟨_, rfl, rfl, by first | rw [if_pos (by omega)] | rw [if_neg (by omega)]⟩
  · refine ok_lload_n 4 rfl rfl rfl (ok_lload 5 rfl rfl rfl (ok_lcmp_gt 6 7 17 rfl rfl rfl rfl rfl (fun h9 => ?_) (fun h9 => ?_)))
    · refine ok_iconst 10 rfl rfl (by decide) (ok_zret 11 rfl rfl rfl (by first | omega | (simp [up_if]; omega) | (simp [up_if] at *; omega)) ?_)
      exact ⟨_, rfl, rfl, by first | rw [if_pos (by omega)] | rw [if_neg (by omega)]⟩
    · refine ok_iconst 8 rfl rfl (by decide) (ok_goto 9 18 rfl rfl rfl (ok_zret 11 rfl rfl rfl (by first | omega | (simp [up_if]; omega) | (simp [up_if] at *; omega)) ?_))
      exact ⟨_, rfl, rfl, by first | rw [if_pos (by omega)] | rw [if_neg (by omega)]⟩
theorem s_Mo_isIn_y {σ : eS} {v a b : Int} (h : a ≤ v ∧ v ≤ b) : MtI shB M_Mo_isIn [vl v, vl a, vl b] σ (fun σ' z => σ' = σ ∧ z = 1) := by
  have := s_Mo_isIn (σ := σ) (v := v) (a := a) (b := b)
  simp only [if_pos h] at this
  exact this
theorem s_Mo_isIn_n {σ : eS} {v a b : Int} (h : ¬ (a ≤ v ∧ v ≤ b)) : MtI shB M_Mo_isIn [vl v, vl a, vl b] σ (fun σ' z => σ' = σ ∧ z = 0) := by
  have := s_Mo_isIn (σ := σ) (v := v) (a := a) (b := b)
  simp only [if_neg h] at this
  exact this
theorem s_Mo_common {σ : eS} {a b : Int} (ha : 0 ≤ a) (hb : 0 ≤ b) : MtL shB M_Mo_common [vl a, vl b] σ (fun σ' z => σ' = σ ∧ z = (Int.gcd a b : Int)) := by
  refine Mt.of okM_Mo_common (Nat.le_of_ble_eq_true rfl) (fun hk hg => ?_)
  refine ok_lload_n 0 rfl rfl rfl (ok_lst4 1 rfl rfl rfl (ok_lload_n 2 rfl rfl rfl (ok_lst6 3 rfl rfl rfl ?_)))
  refine lpO (fun q : Int × Int × Option eV => [some (vl a), none, some (vl b), none, some (vl q.1), none, some (vl q.2.1), none, q.2.2, none]) (fun _ => σ) (fun q => 0 ≤ q.1 ∧ 0 ≤ q.2.1 ∧ (Int.gcd q.1 q.2.1 : Int) = (Int.gcd a b : Int)) (fun q => q.2.1.toNat) ?_ (a, b, none) ⟨ha, hb, rfl⟩
  rintro ⟨x, y, w⟩ ⟨h1, h2, h3⟩ ih
  dsimp only at h1 h2 h3 ih ⊢
  refine ok_lload 4 rfl rfl rfl (ok_lconst (w := 0) 5 rfl rfl rfl (by decide) (ok_lcmp_eq 6 7 31 rfl rfl rfl rfl rfl (fun h9 => ?_) (fun h9 => ?_)))
  · refine ok_lload 17 rfl rfl rfl (ok_lret 18 rfl rfl rfl ?_)
    exact ⟨_, rfl, rfl, by rw [← h3, show y = 0 by omega, gcd_0 h1]⟩
  · have h4 := Int.emod_nonneg x (by omega : y ≠ 0)
    have h5 := Int.emod_lt_of_pos x (by omega : 0 < y)
    refine ok_lload 8 rfl rfl rfl (ok_lload 9 rfl rfl rfl (ok_lrem 10 rfl rfl (by first | omega | (simp [up_if]; omega) | (simp [up_if] at *; omega)) (by first | omega | (simp [up_if]; omega) | (simp [up_if] at *; omega)) (ok_lst8 11 rfl rfl rfl (ok_lload 12 rfl rfl rfl (ok_lst4 13 rfl rfl rfl (ok_lload 14 rfl rfl rfl (ok_lst6 15 rfl rfl rfl (ok_goto 16 6 rfl rfl rfl ?_))))))))
    exact ih (y, x % y, _) ⟨h2, h4, by rw [← h3, gcd_step h1 (by omega)]⟩ (by dsimp only; omega)
def iB1 (σ : eS) : Prop := (∀ s : Int, 0 ≤ s → s < 4 → 0 ≤ σ 1 s ∧ σ 1 s ≤ 8 ∧ (0 < σ 1 s → 1 ≤ σ 2 s ∧ σ 2 s ≤ 999999)) ∧ (∀ k : Int, 0 ≤ k → k < 256 → 0 ≤ σ 3 k ∧ σ 3 k ≤ 99999999) ∧ (∀ k : Int, 0 ≤ k → k < 64 → 0 ≤ σ 4 k)
def cB (σ : eS) (s i j : Int) : Int := σ 3 (64 * s + σ 1 s * i + j)
def rowB (σ : eS) (s i : Int) : Int := sm (fun j => cB σ s i j) (σ 1 s).toNat
def colB (σ : eS) (s j : Int) : Int := sm (fun i => cB σ s i j) (σ 1 s).toNat
theorem cB_bd {σ : eS} {s i j : Int} (hB : iB1 σ) (hs : 0 ≤ s ∧ s < 4) (hi : 0 ≤ i ∧ i < σ 1 s) (hj : 0 ≤ j ∧ j < σ 1 s) : 0 ≤ cB σ s i j ∧ cB σ s i j ≤ 99999999 := by
  obtain ⟨h1, h2, -⟩ := hB.1 s hs.1 hs.2
  obtain ⟨h3, h4, h5, h6⟩ := ix8 ⟨h1, h2⟩ hi hj
  exact hB.2.1 _ (by omega) (by omega)
theorem rowB_bd {σ : eS} {s i : Int} (hB : iB1 σ) (hs : 0 ≤ s ∧ s < 4) (hi : 0 ≤ i ∧ i < σ 1 s) : 0 ≤ rowB σ s i ∧ rowB σ s i ≤ 799999992 := by
  obtain ⟨h1, h2, -⟩ := hB.1 s hs.1 hs.2
  have h := sm_bd (f := fun j => cB σ s i j) (B := 99999999) (by decide) (n := (σ 1 s).toNat) (fun k a b => cB_bd hB hs hi ⟨a, by omega⟩)
  refine ⟨h.1, Int.le_trans h.2 ?_⟩
  omega
theorem colB_bd {σ : eS} {s j : Int} (hB : iB1 σ) (hs : 0 ≤ s ∧ s < 4) (hj : 0 ≤ j ∧ j < σ 1 s) : 0 ≤ colB σ s j ∧ colB σ s j ≤ 799999992 := by
  obtain ⟨h1, h2, -⟩ := hB.1 s hs.1 hs.2
  have h := sm_bd (f := fun i => cB σ s i j) (B := 99999999) (by decide) (n := (σ 1 s).toNat) (fun k a b => cB_bd hB hs ⟨a, by omega⟩ hj)
  refine ⟨h.1, Int.le_trans h.2 ?_⟩
  omega
theorem s_Mo_isSlot {σ : eS} {s : Int} : MtI shB M_Mo_isSlot [vi s] σ (fun σ' z => σ' = σ ∧ z = if 0 ≤ s ∧ s ≤ 3 then 1 else 0) := by
  refine Mt.of okM_Mo_isSlot (Nat.le_of_ble_eq_true rfl) (fun hk hg => ?_)
  refine ok_iload_n 0 rfl rfl rfl (ok_i2l 1 rfl rfl (ok_lconst (w := 0) 2 rfl rfl rfl (by decide) (ok_ldc2 3 (3) rfl rfl kc_X12_97 (by decide) (ok_callSI (M' := M_Mo_isIn) (as := [_, _, _]) 4 rfl rfl ml_X12_99 (s_Mo_isIn) ⟨Nat.le_of_ble_eq_true rfl, Nat.le_of_ble_eq_true rfl⟩ rfl (Nat.le_of_ble_eq_true rfl) (fun σ' z hz => ?_)))))
  rw [hz.1, hz.2]
  clear hz z σ'
  refine ok_zret 5 rfl rfl rfl (by split <;> omega) ?_
  exact ⟨_, rfl, rfl, rfl⟩
theorem s_Mo_isTable {σ : eS} {s : Int} : MtI shB M_Mo_isTable [vr 0, vi s] σ (fun σ' z => σ' = σ ∧ z = if 0 ≤ s ∧ s < 4 ∧ 0 < σ 1 s then 1 else 0) := by
  refine Mt.of okM_Mo_isTable (Nat.le_of_ble_eq_true rfl) (fun hk hg => ?_)
  refine ok_iload_n 0 rfl rfl rfl (ok_callSI (M' := M_Mo_isSlot) (as := [_]) 1 rfl rfl ml_X12_103 (s_Mo_isSlot) ⟨Nat.le_of_ble_eq_true rfl, Nat.le_of_ble_eq_true rfl⟩ rfl (Nat.le_of_ble_eq_true rfl) (fun σ' z hz => ?_))
  rw [hz.1, hz.2]
  clear hz z σ'
  refine ok_if_eq 2 20 rfl rfl rfl (fun h4 => ?_) (fun h4 => ?_)
  · have h4 : ¬ (0 ≤ s ∧ s ≤ 3) := fun q => by rw [if_pos q] at h4; omega
    refine ok_iconst 10 rfl rfl (by decide) (ok_zret 11 rfl rfl rfl (by first | omega | (simp [up_if]; omega) | (simp [up_if] at *; omega)) ?_)
    exact ⟨_, rfl, rfl, by rw [if_neg (by omega)]⟩
  · have h4 : 0 ≤ s ∧ s ≤ 3 := by
      by_cases q : 0 ≤ s ∧ s ≤ 3
      · exact q
      · rw [if_neg q] at h4; omega
    refine ok_aload_n 3 rfl rfl rfl (ok_getR 4 rfl rfl fl_X12_7 rfl rfl (ok_iload_n 5 rfl rfl rfl (ok_iald 6 rfl rfl rfl (by first | omega | (simp [up_if]; omega) | (simp [up_if] at *; omega)) (ok_if_le 7 20 rfl rfl rfl (fun h13 => ?_) (fun h13 => ?_)))))
    · refine ok_iconst 10 rfl rfl (by decide) (ok_zret 11 rfl rfl rfl (by first | omega | (simp [up_if]; omega) | (simp [up_if] at *; omega)) ?_)
      exact ⟨_, rfl, rfl, by first | rw [if_pos (by omega)] | rw [if_neg (by omega)]⟩
    · refine ok_iconst 8 rfl rfl (by decide) (ok_goto 9 21 rfl rfl rfl (ok_zret 11 rfl rfl rfl (by first | omega | (simp [up_if]; omega) | (simp [up_if] at *; omega)) ?_))
      exact ⟨_, rfl, rfl, by first | rw [if_pos (by omega)] | rw [if_neg (by omega)]⟩
def tabB (σ : eS) (s : Int) : Prop := 0 ≤ s ∧ s < 4 ∧ 0 < σ 1 s
theorem s_Mo_isTable_y {σ : eS} {s : Int} (h : tabB σ s) : MtI shB M_Mo_isTable [vr 0, vi s] σ (fun σ' z => σ' = σ ∧ z = 1) := by
  have h' : 0 ≤ s ∧ s < 4 ∧ 0 < σ 1 s := h
  have := s_Mo_isTable (σ := σ) (s := s)
  simp only [if_pos h'] at this
  exact this
theorem s_Mo_isTable_n {σ : eS} {s : Int} (h : ¬ tabB σ s) : MtI shB M_Mo_isTable [vr 0, vi s] σ (fun σ' z => σ' = σ ∧ z = 0) := by
  have h' : ¬ (0 ≤ s ∧ s < 4 ∧ 0 < σ 1 s) := h
  have := s_Mo_isTable (σ := σ) (s := s)
  simp only [if_neg h'] at this
  exact this
theorem s_Mo_isSlot_y {σ : eS} {s : Int} (h : 0 ≤ s ∧ s < 4) : MtI shB M_Mo_isSlot [vi s] σ (fun σ' z => σ' = σ ∧ z = 1) := by
  have h' : 0 ≤ s ∧ s ≤ 3 := by omega
  have := s_Mo_isSlot (σ := σ) (s := s)
  simp only [if_pos h'] at this
  exact this
theorem s_Mo_isSlot_n {σ : eS} {s : Int} (h : ¬ (0 ≤ s ∧ s < 4)) : MtI shB M_Mo_isSlot [vi s] σ (fun σ' z => σ' = σ ∧ z = 0) := by
  have h' : ¬ (0 ≤ s ∧ s ≤ 3) := by omega
  have := s_Mo_isSlot (σ := σ) (s := s)
  simp only [if_neg h'] at this
  exact this
theorem s_Mo_at {σ : eS} {s i j : Int} (hB : iB1 σ) (hs : 0 ≤ s ∧ s < 4) (hi : 0 ≤ i ∧ i < σ 1 s) (hj : 0 ≤ j ∧ j < σ 1 s) : MtI shB M_Mo_at [vr 0, vi s, vi i, vi j] σ (fun σ' z => σ' = σ ∧ z = cB σ s i j) := by
  refine Mt.of okM_Mo_at (Nat.le_of_ble_eq_true rfl) (fun hk hg => ?_)
  obtain ⟨h1, h2, -⟩ := hB.1 s hs.1 hs.2
  obtain ⟨h3, h4, h5, h6⟩ := ix8 ⟨h1, h2⟩ hi hj
  refine ok_aload_n 0 rfl rfl rfl (ok_getR 1 rfl rfl fl_X12_16 rfl rfl (ok_bipush 2 rfl rfl (by decide) (by decide) (ok_iload_n 3 rfl rfl rfl (ok_imul 4 rfl rfl (by first | omega | (simp [up_if]; omega) | (simp [up_if] at *; omega)) (ok_aload_n 5 rfl rfl rfl (ok_getR 6 rfl rfl fl_X12_7 rfl rfl (ok_iload_n 7 rfl rfl rfl (ok_iald 8 rfl rfl rfl (by first | omega | (simp [up_if]; omega) | (simp [up_if] at *; omega)) (ok_iload_n 9 rfl rfl rfl (ok_imul 10 rfl rfl (by first | omega | (simp [up_if]; omega) | (simp [up_if] at *; omega)) (ok_iadd 11 rfl rfl (by first | omega | (simp [up_if]; omega) | (simp [up_if] at *; omega)) (ok_iload_n 12 rfl rfl rfl (ok_iadd 13 rfl rfl (by first | omega | (simp [up_if]; omega) | (simp [up_if] at *; omega)) (ok_iald 14 rfl rfl rfl (by first | omega | (simp [up_if]; omega) | (simp [up_if] at *; omega)) (ok_iret 15 rfl rfl rfl ?_)))))))))))))))
  exact ⟨_, rfl, rfl, rfl⟩
theorem s_Mo_rowOf {σ : eS} {s i : Int} (hB : iB1 σ) (hs : 0 ≤ s ∧ s < 4) (hi : 0 ≤ i ∧ i < σ 1 s) : MtL shB M_Mo_rowOf [vr 0, vi s, vi i] σ (fun σ' z => σ' = σ ∧ z = rowB σ s i) := by
  refine Mt.of okM_Mo_rowOf (Nat.le_of_ble_eq_true rfl) (fun hk hg => ?_)
  obtain ⟨g1, g2, -⟩ := hB.1 s hs.1 hs.2
  refine ok_lconst (w := 0) 0 rfl rfl rfl (by decide) (ok_lst3 1 rfl rfl rfl (ok_iconst 2 rfl rfl (by decide) (ok_ist5 3 rfl rfl rfl ?_)))
  refine lpO (fun q : Int × Int => [some (vr 0), some (vi s), some (vi i), some (vl q.1), none, some (vi q.2)]) (fun _ => σ) (fun q => 0 ≤ q.2 ∧ q.2 ≤ σ 1 s ∧ q.1 = sm (fun j => cB σ s i j) q.2.toNat) (fun q => (σ 1 s - q.2).toNat) ?_ (0, 0) ⟨by omega, by omega, rfl⟩
  rintro ⟨v, j⟩ ⟨h1, h2, h3⟩ ih
  dsimp only at h1 h2 h3 ih ⊢
  have hb := sm_bd (f := fun j => cB σ s i j) (B := 99999999) (by decide) (n := j.toNat) (fun k a b => cB_bd hB hs hi ⟨a, by omega⟩)
  refine ok_iload 4 rfl rfl rfl (ok_aload_n 5 rfl rfl rfl (ok_getR 6 rfl rfl fl_X12_7 rfl rfl (ok_iload_n 7 rfl rfl rfl (ok_iald 8 rfl rfl rfl (by first | omega | (simp [up_if]; omega) | (simp [up_if] at *; omega)) (ok_icmp_ge 9 34 rfl rfl rfl (fun h13 => ?_) (fun h13 => ?_))))))
  · refine ok_lload_n 21 rfl rfl rfl (ok_lret 22 rfl rfl rfl ?_)
    exact ⟨_, rfl, rfl, by rw [h3, show j = σ 1 s by omega]; rfl⟩
  · refine ok_lload_n 10 rfl rfl rfl (ok_aload_n 11 rfl rfl rfl (ok_iload_n 12 rfl rfl rfl (ok_iload_n 13 rfl rfl rfl (ok_iload 14 rfl rfl rfl (ok_callVI (M' := M_Mo_at) (as := [_, _, _]) 15 rfl rfl ml_X12_107 (s_Mo_at hB hs hi ⟨by omega, by omega⟩) rfl rfl (Nat.le_of_ble_eq_true rfl) ⟨Nat.le_of_ble_eq_true rfl, Nat.le_of_ble_eq_true rfl⟩ rfl (Nat.le_of_ble_eq_true rfl) (fun σ' z hz => ?_))))))
    rw [hz.1, hz.2]; clear hz z σ'
    have hc := cB_bd hB hs hi (j := j) ⟨by omega, by omega⟩
    refine ok_i2l 16 rfl rfl (ok_ladd 17 rfl rfl (by first | omega | (simp [up_if]; omega) | (simp [up_if] at *; omega)) (ok_lst3 18 rfl rfl rfl (ok_inc5 19 rfl rfl rfl (by first | omega | (simp [up_if]; omega) | (simp [up_if] at *; omega)) (ok_goto 20 5 rfl rfl rfl ?_))))
    exact ih (_, _) ⟨by dsimp only; omega, by dsimp only; omega, by dsimp only; rw [sm_s _ h1, h3]⟩ (by dsimp only; omega)
theorem s_Mo_columnOf {σ : eS} {s j : Int} (hB : iB1 σ) (hs : 0 ≤ s ∧ s < 4) (hj : 0 ≤ j ∧ j < σ 1 s) : MtL shB M_Mo_columnOf [vr 0, vi s, vi j] σ (fun σ' z => σ' = σ ∧ z = colB σ s j) := by
  refine Mt.of okM_Mo_columnOf (Nat.le_of_ble_eq_true rfl) (fun hk hg => ?_)
  obtain ⟨g1, g2, -⟩ := hB.1 s hs.1 hs.2
  refine ok_lconst (w := 0) 0 rfl rfl rfl (by decide) (ok_lst3 1 rfl rfl rfl (ok_iconst 2 rfl rfl (by decide) (ok_ist5 3 rfl rfl rfl ?_)))
  refine lpO (fun q : Int × Int => [some (vr 0), some (vi s), some (vi j), some (vl q.1), none, some (vi q.2)]) (fun _ => σ) (fun q => 0 ≤ q.2 ∧ q.2 ≤ σ 1 s ∧ q.1 = sm (fun i => cB σ s i j) q.2.toNat) (fun q => (σ 1 s - q.2).toNat) ?_ (0, 0) ⟨by omega, by omega, rfl⟩
  rintro ⟨v, i⟩ ⟨h1, h2, h3⟩ ih
  dsimp only at h1 h2 h3 ih ⊢
  have hb := sm_bd (f := fun i => cB σ s i j) (B := 99999999) (by decide) (n := i.toNat) (fun k a b => cB_bd hB hs ⟨a, by omega⟩ hj)
  refine ok_iload 4 rfl rfl rfl (ok_aload_n 5 rfl rfl rfl (ok_getR 6 rfl rfl fl_X12_7 rfl rfl (ok_iload_n 7 rfl rfl rfl (ok_iald 8 rfl rfl rfl (by first | omega | (simp [up_if]; omega) | (simp [up_if] at *; omega)) (ok_icmp_ge 9 34 rfl rfl rfl (fun h13 => ?_) (fun h13 => ?_))))))
  · refine ok_lload_n 21 rfl rfl rfl (ok_lret 22 rfl rfl rfl ?_)
    exact ⟨_, rfl, rfl, by rw [h3, show i = σ 1 s by omega]; rfl⟩
  · refine ok_lload_n 10 rfl rfl rfl (ok_aload_n 11 rfl rfl rfl (ok_iload_n 12 rfl rfl rfl (ok_iload 13 rfl rfl rfl (ok_iload_n 14 rfl rfl rfl (ok_callVI (M' := M_Mo_at) (as := [_, _, _]) 15 rfl rfl ml_X12_107 (s_Mo_at hB hs ⟨by omega, by omega⟩ hj) rfl rfl (Nat.le_of_ble_eq_true rfl) ⟨Nat.le_of_ble_eq_true rfl, Nat.le_of_ble_eq_true rfl⟩ rfl (Nat.le_of_ble_eq_true rfl) (fun σ' z hz => ?_))))))
    rw [hz.1, hz.2]; clear hz z σ'
    have hc := cB_bd hB hs (i := i) ⟨by omega, by omega⟩ hj
    refine ok_i2l 16 rfl rfl (ok_ladd 17 rfl rfl (by first | omega | (simp [up_if]; omega) | (simp [up_if] at *; omega)) (ok_lst3 18 rfl rfl rfl (ok_inc5 19 rfl rfl rfl (by first | omega | (simp [up_if]; omega) | (simp [up_if] at *; omega)) (ok_goto 20 5 rfl rfl rfl ?_))))
    exact ih (_, _) ⟨by dsimp only; omega, by dsimp only; omega, by dsimp only; rw [sm_s _ h1, h3]⟩ (by dsimp only; omega)
