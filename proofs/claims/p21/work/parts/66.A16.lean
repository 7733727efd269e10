def evT (σ : eS) (t : Nat) : Prop := 0 < σ t 1 ∧ 0 < rowT σ t 0 ∧ (∀ k, 0 ≤ k → k < σ t 1 → rowT σ t k = rowT σ t 0) ∧ ∀ k, 0 ≤ k → k < σ t 1 → colT σ t k = rowT σ t 0
def mT (σ : eS) (t : Nat) : Prop := (σ t 3 = -1 ∧ ¬ evT σ t) ∨ (evT σ t ∧ σ t 3 = rowT σ t 0)
theorem iT_cg {σ τ : eS} {t : Nat} (h : iT σ t) (e1 : τ t 1 = σ t 1) (e2 : τ t 2 = σ t 2) (e : ∀ k, τ (t + 4) k = σ (t + 4) k) : iT τ t ∧ rowT τ t = rowT σ t ∧ colT τ t = colT σ t := by
  refine ⟨?_, ?_, ?_⟩
  · unfold iT
    rw [e1, e2]
    exact ⟨h.1, h.2.1, h.2.2.1, fun k a b => by rw [e]; exact h.2.2.2 k a b⟩
  · funext i; unfold rowT cT; simp only [e1, e]
  · funext i; unfold colT cT; simp only [e1, e]
abbrev rgT1 (t : Nat) : Nat → Int → Prop := fun c k => c = t ∧ (k = 1 ∨ k = 2 ∨ k = 3 ∨ k = 4 ∨ k = 6)
theorem s_Ta_settle {σ : eS} {t : Nat} {n b : Int} (ht : tA t) (hn : 0 ≤ n ∧ n ≤ 8) (hb : b ≤ 999999) (hc : ∀ k : Int, 0 ≤ k → k < 64 → 0 ≤ σ (t + 4) k ∧ σ (t + 4) k ≤ 99999999) : MtV shA M_Ta_settle [vr t, vi n, vi b] σ (fun σ' => fr (rgT1 t) σ σ' ∧ iT σ' t ∧ mT σ' t ∧ σ' t 1 = n ∧ σ' t 2 = max 1 b ∧ σ' t 4 = 0 ∧ σ' t 6 = 0) := by
  refine Mt.of okM_Ta_settle (Nat.le_of_ble_eq_true rfl) (fun hk hg => ?_)
  obtain ⟨τ, eτ⟩ : ∃ τ, τ = up (up (up (up σ t 1 n) t 2 (max 1 b)) t 4 0) t 6 0 := ⟨_, rfl⟩
  have f : fr (rgT1 t) σ τ := by rw [eτ]; exact fr_up (fr_up (fr_up (fr_up fr.rf (by simp [rgT1])) (by simp [rgT1])) (by simp [rgT1])) (by simp [rgT1])
  have e1 : τ t 1 = n := by rw [eτ]; simp [up_if]
  have e2 : τ t 2 = max 1 b := by rw [eτ]; simp [up_if]
  have e4 : τ t 4 = 0 := by rw [eτ]; simp [up_if]
  have e6 : τ t 6 = 0 := by rw [eτ]; simp [up_if]
  have ec : ∀ k, τ (t + 4) k = σ (t + 4) k := fun k => f (t + 4) k (by simp only [rgT1]; omega)
  have hT : iT τ t := ⟨by omega, by omega, fun _ => by omega, fun k a b => by rw [ec]; exact hc k a b⟩
  have fin : ∀ v : Int, ((v = -1 ∧ ¬ evT τ t) ∨ (evT τ t ∧ v = rowT τ t 0)) → fr (rgT1 t) σ (up τ t 3 v) ∧ iT (up τ t 3 v) t ∧ mT (up τ t 3 v) t ∧ up τ t 3 v t 1 = n ∧ up τ t 3 v t 2 = max 1 b ∧ up τ t 3 v t 4 = 0 ∧ up τ t 3 v t 6 = 0 := fun v hv => by
    have x : ∀ k, k ≠ 3 → up τ t 3 v t k = τ t k := fun k q => up_nk _ _ _ _ q
    obtain ⟨y1, y2, y3⟩ := iT_cg (τ := up τ t 3 v) hT (x 1 (by decide)) (x 2 (by decide)) (fun k => up_ne _ _ _ _ (by omega))
    refine ⟨fr_up f (by simp [rgT1]), y1, ?_, by rw [x 1 (by decide)]; exact e1, by rw [x 2 (by decide)]; exact e2, by rw [x 4 (by decide)]; exact e4, by rw [x 6 (by decide)]; exact e6⟩
    unfold mT evT
    rw [y2, y3, up_same, x 1 (by decide)]
    exact hv
  refine ok_aload_n 0 rfl rfl rfl (ok_iload_n 1 rfl rfl rfl (ok_putI 2 rfl rfl fl_X9_15 (sT ht) rfl rfl rfl (ok_aload_n 3 rfl rfl rfl (ok_iconst 4 rfl rfl (by decide) (ok_iload_n 5 rfl rfl rfl (ok_mmax 6 rfl rfl ml_X9_42 ⟨Nat.le_of_ble_eq_true rfl, Nat.le_of_ble_eq_true rfl⟩ (ok_putI 7 rfl rfl fl_X9_19 (sT ht) rfl rfl rfl (ok_aload_n 8 rfl rfl rfl (ok_iconst 9 rfl rfl (by decide) (ok_putZ 10 rfl rfl fl_X9_25 (sT ht) rfl rfl rfl (by first | omega | (simp [up_if]; omega) | (simp [up_if] at *; omega)) (ok_aload_n 11 rfl rfl rfl (ok_iconst 12 rfl rfl (by decide) (ok_putZ 13 rfl rfl fl_X9_33 (sT ht) rfl rfl rfl (by first | omega | (simp [up_if]; omega) | (simp [up_if] at *; omega)) ?_)))))))))))))
  rw [← eτ]
  refine ok_aload_n 14 rfl rfl rfl (ok_getI 15 rfl rfl fl_X9_15 (sT ht) rfl (Or.inl rfl) (ok_if_le 16 51 rfl rfl rfl (fun h28 => ?_) (fun h28 => ?_)))
  · refine ok_iconst 27 rfl rfl (by decide) (ok_ist3 28 rfl rfl rfl (ok_aload_n 29 rfl rfl rfl (ok_iload_n 30 rfl rfl rfl (ok_if_eq 31 66 rfl rfl rfl (fun h55 => ?_) (fun h55 => ?_)))))
    · refine ok_iconst 36 rfl rfl (by decide) (ok_putI 37 rfl rfl fl_X9_22 (sT ht) rfl rfl rfl (ok_vret 38 rfl rfl rfl ?_))
      first
        | exact ⟨rfl, fin _ (Or.inl ⟨rfl, fun q => by have := q.1; omega⟩)⟩
        | exact ⟨rfl, fin _ (Or.inl ⟨rfl, fun q => by have := hm.mpr ⟨q.2.2.1, q.2.2.2⟩; omega⟩)⟩
        | exact ⟨rfl, fin _ (Or.inl ⟨rfl, fun q => by have := q.2.1; omega⟩)⟩
        | (exfalso; omega)
        | exact ⟨rfl, fin _ (Or.inr ⟨⟨by omega, by omega, (hm.mp (by omega)).1, (hm.mp (by omega)).2⟩, rfl⟩)⟩
    · refine ok_aload_n 32 rfl rfl rfl (ok_iconst 33 rfl rfl (by decide) (ok_callVI (M' := M_Ta_sumOfRow) (as := [_]) 34 rfl rfl ml_X9_52 (s_Ta_sumOfRow ht hT ⟨by omega, by omega⟩) (sT ht) rfl (Nat.le_of_ble_eq_true rfl) ⟨Nat.le_of_ble_eq_true rfl, Nat.le_of_ble_eq_true rfl⟩ rfl (Nat.le_of_ble_eq_true rfl) (fun σ' z hz => ?_)))
      rw [hz.1, hz.2]
      clear hz z σ'
      refine ok_goto 35 67 rfl rfl rfl (ok_putI 37 rfl rfl fl_X9_22 (sT ht) rfl rfl rfl (ok_vret 38 rfl rfl rfl ?_))
      first
        | exact ⟨rfl, fin _ (Or.inl ⟨rfl, fun q => by have := q.1; omega⟩)⟩
        | exact ⟨rfl, fin _ (Or.inl ⟨rfl, fun q => by have := hm.mpr ⟨q.2.2.1, q.2.2.2⟩; omega⟩)⟩
        | exact ⟨rfl, fin _ (Or.inl ⟨rfl, fun q => by have := q.2.1; omega⟩)⟩
        | (exfalso; omega)
        | exact ⟨rfl, fin _ (Or.inr ⟨⟨by omega, by omega, (hm.mp (by omega)).1, (hm.mp (by omega)).2⟩, rfl⟩)⟩
  · refine ok_aload_n 17 rfl rfl rfl (ok_callVI (M' := M_Ta_firstUneven) (as := []) 18 rfl rfl ml_X9_48 (s_Ta_firstUneven ht hT) (sT ht) rfl (Nat.le_of_ble_eq_true rfl) ⟨Nat.le_of_ble_eq_true rfl, Nat.le_of_ble_eq_true rfl⟩ rfl (Nat.le_of_ble_eq_true rfl) (fun σ' z hz => ?_))
    obtain ⟨hs_, hz⟩ := hz
    rw [hs_]; clear hs_ σ'
    have hm := unev_m1 hz
    refine ok_iconst 19 rfl rfl (by decide) (ok_icmp_ne 20 51 rfl rfl rfl (fun h36 => ?_) (fun h36 => ?_))
    · refine ok_iconst 27 rfl rfl (by decide) (ok_ist3 28 rfl rfl rfl (ok_aload_n 29 rfl rfl rfl (ok_iload_n 30 rfl rfl rfl (ok_if_eq 31 66 rfl rfl rfl (fun h55 => ?_) (fun h55 => ?_)))))
      · refine ok_iconst 36 rfl rfl (by decide) (ok_putI 37 rfl rfl fl_X9_22 (sT ht) rfl rfl rfl (ok_vret 38 rfl rfl rfl ?_))
        first
          | exact ⟨rfl, fin _ (Or.inl ⟨rfl, fun q => by have := q.1; omega⟩)⟩
          | exact ⟨rfl, fin _ (Or.inl ⟨rfl, fun q => by have := hm.mpr ⟨q.2.2.1, q.2.2.2⟩; omega⟩)⟩
          | exact ⟨rfl, fin _ (Or.inl ⟨rfl, fun q => by have := q.2.1; omega⟩)⟩
          | (exfalso; omega)
          | exact ⟨rfl, fin _ (Or.inr ⟨⟨by omega, by omega, (hm.mp (by omega)).1, (hm.mp (by omega)).2⟩, rfl⟩)⟩
      · refine ok_aload_n 32 rfl rfl rfl (ok_iconst 33 rfl rfl (by decide) (ok_callVI (M' := M_Ta_sumOfRow) (as := [_]) 34 rfl rfl ml_X9_52 (s_Ta_sumOfRow ht hT ⟨by omega, by omega⟩) (sT ht) rfl (Nat.le_of_ble_eq_true rfl) ⟨Nat.le_of_ble_eq_true rfl, Nat.le_of_ble_eq_true rfl⟩ rfl (Nat.le_of_ble_eq_true rfl) (fun σ' z hz => ?_)))
        rw [hz.1, hz.2]
        clear hz z σ'
        refine ok_goto 35 67 rfl rfl rfl (ok_putI 37 rfl rfl fl_X9_22 (sT ht) rfl rfl rfl (ok_vret 38 rfl rfl rfl ?_))
        first
          | exact ⟨rfl, fin _ (Or.inl ⟨rfl, fun q => by have := q.1; omega⟩)⟩
          | exact ⟨rfl, fin _ (Or.inl ⟨rfl, fun q => by have := hm.mpr ⟨q.2.2.1, q.2.2.2⟩; omega⟩)⟩
          | exact ⟨rfl, fin _ (Or.inl ⟨rfl, fun q => by have := q.2.1; omega⟩)⟩
          | (exfalso; omega)
          | exact ⟨rfl, fin _ (Or.inr ⟨⟨by omega, by omega, (hm.mp (by omega)).1, (hm.mp (by omega)).2⟩, rfl⟩)⟩
    · refine ok_aload_n 21 rfl rfl rfl (ok_iconst 22 rfl rfl (by decide) (ok_callVI (M' := M_Ta_sumOfRow) (as := [_]) 23 rfl rfl ml_X9_52 (s_Ta_sumOfRow ht hT ⟨by omega, by omega⟩) (sT ht) rfl (Nat.le_of_ble_eq_true rfl) ⟨Nat.le_of_ble_eq_true rfl, Nat.le_of_ble_eq_true rfl⟩ rfl (Nat.le_of_ble_eq_true rfl) (fun σ' z hz => ?_)))
      rw [hz.1, hz.2]
      clear hz z σ'
      refine ok_if_le 24 51 rfl rfl rfl (fun h44 => ?_) (fun h44 => ?_)
      · refine ok_iconst 27 rfl rfl (by decide) (ok_ist3 28 rfl rfl rfl (ok_aload_n 29 rfl rfl rfl (ok_iload_n 30 rfl rfl rfl (ok_if_eq 31 66 rfl rfl rfl (fun h55 => ?_) (fun h55 => ?_)))))
        · refine ok_iconst 36 rfl rfl (by decide) (ok_putI 37 rfl rfl fl_X9_22 (sT ht) rfl rfl rfl (ok_vret 38 rfl rfl rfl ?_))
          first
            | exact ⟨rfl, fin _ (Or.inl ⟨rfl, fun q => by have := q.1; omega⟩)⟩
            | exact ⟨rfl, fin _ (Or.inl ⟨rfl, fun q => by have := hm.mpr ⟨q.2.2.1, q.2.2.2⟩; omega⟩)⟩
            | exact ⟨rfl, fin _ (Or.inl ⟨rfl, fun q => by have := q.2.1; omega⟩)⟩
            | (exfalso; omega)
            | exact ⟨rfl, fin _ (Or.inr ⟨⟨by omega, by omega, (hm.mp (by omega)).1, (hm.mp (by omega)).2⟩, rfl⟩)⟩
        · refine ok_aload_n 32 rfl rfl rfl (ok_iconst 33 rfl rfl (by decide) (ok_callVI (M' := M_Ta_sumOfRow) (as := [_]) 34 rfl rfl ml_X9_52 (s_Ta_sumOfRow ht hT ⟨by omega, by omega⟩) (sT ht) rfl (Nat.le_of_ble_eq_true rfl) ⟨Nat.le_of_ble_eq_true rfl, Nat.le_of_ble_eq_true rfl⟩ rfl (Nat.le_of_ble_eq_true rfl) (fun σ' z hz => ?_)))
          rw [hz.1, hz.2]
          clear hz z σ'
          refine ok_goto 35 67 rfl rfl rfl (ok_putI 37 rfl rfl fl_X9_22 (sT ht) rfl rfl rfl (ok_vret 38 rfl rfl rfl ?_))
          first
            | exact ⟨rfl, fin _ (Or.inl ⟨rfl, fun q => by have := q.1; omega⟩)⟩
            | exact ⟨rfl, fin _ (Or.inl ⟨rfl, fun q => by have := hm.mpr ⟨q.2.2.1, q.2.2.2⟩; omega⟩)⟩
            | exact ⟨rfl, fin _ (Or.inl ⟨rfl, fun q => by have := q.2.1; omega⟩)⟩
            | (exfalso; omega)
            | exact ⟨rfl, fin _ (Or.inr ⟨⟨by omega, by omega, (hm.mp (by omega)).1, (hm.mp (by omega)).2⟩, rfl⟩)⟩
      · refine ok_iconst 25 rfl rfl (by decide) (ok_goto 26 52 rfl rfl rfl (ok_ist3 28 rfl rfl rfl (ok_aload_n 29 rfl rfl rfl (ok_iload_n 30 rfl rfl rfl (ok_if_eq 31 66 rfl rfl rfl (fun h55 => ?_) (fun h55 => ?_))))))
        · refine ok_iconst 36 rfl rfl (by decide) (ok_putI 37 rfl rfl fl_X9_22 (sT ht) rfl rfl rfl (ok_vret 38 rfl rfl rfl ?_))
          first
            | exact ⟨rfl, fin _ (Or.inl ⟨rfl, fun q => by have := q.1; omega⟩)⟩
            | exact ⟨rfl, fin _ (Or.inl ⟨rfl, fun q => by have := hm.mpr ⟨q.2.2.1, q.2.2.2⟩; omega⟩)⟩
            | exact ⟨rfl, fin _ (Or.inl ⟨rfl, fun q => by have := q.2.1; omega⟩)⟩
            | (exfalso; omega)
            | exact ⟨rfl, fin _ (Or.inr ⟨⟨by omega, by omega, (hm.mp (by omega)).1, (hm.mp (by omega)).2⟩, rfl⟩)⟩
        · refine ok_aload_n 32 rfl rfl rfl (ok_iconst 33 rfl rfl (by decide) (ok_callVI (M' := M_Ta_sumOfRow) (as := [_]) 34 rfl rfl ml_X9_52 (s_Ta_sumOfRow ht hT ⟨by omega, by omega⟩) (sT ht) rfl (Nat.le_of_ble_eq_true rfl) ⟨Nat.le_of_ble_eq_true rfl, Nat.le_of_ble_eq_true rfl⟩ rfl (Nat.le_of_ble_eq_true rfl) (fun σ' z hz => ?_)))
          rw [hz.1, hz.2]
          clear hz z σ'
          refine ok_goto 35 67 rfl rfl rfl (ok_putI 37 rfl rfl fl_X9_22 (sT ht) rfl rfl rfl (ok_vret 38 rfl rfl rfl ?_))
          first
            | exact ⟨rfl, fin _ (Or.inl ⟨rfl, fun q => by have := q.1; omega⟩)⟩
            | exact ⟨rfl, fin _ (Or.inl ⟨rfl, fun q => by have := hm.mpr ⟨q.2.2.1, q.2.2.2⟩; omega⟩)⟩
            | exact ⟨rfl, fin _ (Or.inl ⟨rfl, fun q => by have := q.2.1; omega⟩)⟩
            | (exfalso; omega)
            | exact ⟨rfl, fin _ (Or.inr ⟨⟨by omega, by omega, (hm.mp (by omega)).1, (hm.mp (by omega)).2⟩, rfl⟩)⟩
