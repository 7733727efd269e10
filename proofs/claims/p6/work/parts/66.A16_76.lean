section
def evT (σ : eS) (t : Nat) : Prop := 0 < σ t 1 ∧ 0 < rowT σ t 0 ∧ (∀ k, 0 ≤ k → k < σ t 1 → rowT σ t k = rowT σ t 0) ∧ ∀ k, 0 ≤ k → k < σ t 1 → colT σ t k = rowT σ t 0
def mT (σ : eS) (t : Nat) : Prop := (σ t 3 = -1 ∧ ¬ evT σ t) ∨ (evT σ t ∧ σ t 3 = rowT σ t 0)
theorem iT_cg {σ τ : eS} {t : Nat} (h : iT σ t) (e1 : τ t 1 = σ t 1) (e2 : τ t 2 = σ t 2) (e : ∀ k, τ (t + 4) k = σ (t + 4) k) : iT τ t ∧ rowT τ t = rowT σ t ∧ colT τ t = colT σ t := by
  refine ⟨?_, ?_, ?_⟩
  · unfold iT
    rw [e1, e2]
    exact ⟨h.1, h.2.1, h.2.2.1, fun k a b => by rw [e]; exact h.2.2.2 k a b⟩
  · funext i; unfold rowT cT; simp only [e1, e]
  · funext i; unfold colT cT; simp only [e1, e]
abbrev rgT1 (t : Nat) : Nat → Int → Prop := fun c k => c = t ∧ (k = 1 ∨ k = 2 ∨ k = 3 ∨ k = 4 ∨ k = 6)
theorem s_Ta_settle {σ : eS} {t : Nat} {n b : Int} (ht : tA t) (hn : 0 ≤ n ∧ n ≤ 8) (hb : b ≤ 999999) (hc : ∀ k : Int, 0 ≤ k → k < 64 → 0 ≤ σ (t + 4) k ∧ σ (t + 4) k ≤ 99999999) : MtV shA M_Ta_settle [vr t, vi n, vi b] σ (fun σ' => fr (rgT1 t) σ σ' ∧ iT σ' t ∧ mT σ' t ∧ σ' t 1 = n ∧ σ' t 2 = max 1 b ∧ σ' t 4 = 0 ∧ σ' t 6 = 0) := by
  refine Mt.of okM_Ta_settle (Nat.le_of_ble_eq_true rfl) (fun hk hg => ?_)
  obtain ⟨τ, eτ⟩ : ∃ τ, τ = up (up (up (up σ t 1 n) t 2 (max 1 b)) t 4 0) t 6 0 := ⟨_, rfl⟩
  have f : fr (rgT1 t) σ τ := by rw [eτ]; exact fr_up (fr_up (fr_up (fr_up fr.rf (by simp [rgT1])) (by simp [rgT1])) (by simp [rgT1])) (by simp [rgT1])
  have e1 : τ t 1 = n := by rw [eτ]; simp [up_if]
  have e2 : τ t 2 = max 1 b := by rw [eτ]; simp [up_if]
  have e4 : τ t 4 = 0 := by rw [eτ]; simp [up_if]
  have e6 : τ t 6 = 0 := by rw [eτ]; simp [up_if]
  have ec : ∀ k, τ (t + 4) k = σ (t + 4) k := fun k => f (t + 4) k (by simp only [rgT1]; omega)
  have hT : iT τ t := ⟨by omega, by omega, fun _ => by omega, fun k a b => by rw [ec]; exact hc k a b⟩
  have fin : ∀ v : Int, ((v = -1 ∧ ¬ evT τ t) ∨ (evT τ t ∧ v = rowT τ t 0)) → fr (rgT1 t) σ (up τ t 3 v) ∧ iT (up τ t 3 v) t ∧ mT (up τ t 3 v) t ∧ up τ t 3 v t 1 = n ∧ up τ t 3 v t 2 = max 1 b ∧ up τ t 3 v t 4 = 0 ∧ up τ t 3 v t 6 = 0 := fun v hv => by
    have x : ∀ k, k ≠ 3 → up τ t 3 v t k = τ t k := fun k q => up_nk _ _ _ _ q
    obtain ⟨y1, y2, y3⟩ := iT_cg (τ := up τ t 3 v) hT (x 1 (by decide)) (x 2 (by decide)) (fun k => up_ne _ _ _ _ (by omega))
    refine ⟨fr_up f (by simp [rgT1]), y1, ?_, by rw [x 1 (by decide)]; exact e1, by rw [x 2 (by decide)]; exact e2, by rw [x 4 (by decide)]; exact e4, by rw [x 6 (by decide)]; exact e6⟩
    unfold mT evT
    rw [y2, y3, up_same, x 1 (by decide)]
    exact hv
  refine ok_aload_n 0 rfl rfl rfl (ok_iload_n 1 rfl rfl rfl (ok_putI 2 rfl rfl fl_X9_15 (sT ht) rfl rfl rfl (ok_aload_n 3 rfl rfl rfl (ok_iconst 4 rfl rfl (by decide) (ok_iload_n 5 rfl rfl rfl (ok_mmax 6 rfl rfl ml_X9_42 ⟨Nat.le_of_ble_eq_true rfl, Nat.le_of_ble_eq_true rfl⟩ (ok_putI 7 rfl rfl fl_X9_19 (sT ht) rfl rfl rfl (ok_aload_n 8 rfl rfl rfl (ok_iconst 9 rfl rfl (by decide) (ok_putZ 10 rfl rfl fl_X9_25 (sT ht) rfl rfl rfl (by first | omega | (simp [up_if]; omega) | (simp [up_if] at *; omega)) (ok_aload_n 11 rfl rfl rfl (ok_iconst 12 rfl rfl (by decide) (ok_putZ 13 rfl rfl fl_X9_33 (sT ht) rfl rfl rfl (by first | omega | (simp [up_if]; omega) | (simp [up_if] at *; omega)) ?_)))))))))))))
  rw [← eτ]
  refine ok_aload_n 14 rfl rfl rfl (ok_getI 15 rfl rfl fl_X9_15 (sT ht) rfl (Or.inl rfl) (ok_if_le 16 51 rfl rfl rfl (fun h28 => ?_) (fun h28 => ?_)))
  · refine ok_iconst 27 rfl rfl (by decide) (ok_ist3 28 rfl rfl rfl (ok_aload_n 29 rfl rfl rfl (ok_iload_n 30 rfl rfl rfl (ok_if_eq 31 66 rfl rfl rfl (fun h55 => ?_) (fun h55 => ?_)))))
    · refine ok_iconst 36 rfl rfl (by decide) (ok_putI 37 rfl rfl fl_X9_22 (sT ht) rfl rfl rfl (ok_vret 38 rfl rfl rfl ?_))
      first
        | exact ⟨rfl, fin _ (Or.inl ⟨rfl, fun q => by have := q.1; omega⟩)⟩
        | exact ⟨rfl, fin _ (Or.inl ⟨rfl, fun q => by have := hm.mpr ⟨q.2.2.1, q.2.2.2⟩; omega⟩)⟩
        | exact ⟨rfl, fin _ (Or.inl ⟨rfl, fun q => by have := q.2.1; omega⟩)⟩
        | (exfalso; omega)
        | exact ⟨rfl, fin _ (Or.inr ⟨⟨by omega, by omega, (hm.mp (by omega)).1, (hm.mp (by omega)).2⟩, rfl⟩)⟩
    · refine ok_aload_n 32 rfl rfl rfl (ok_iconst 33 rfl rfl (by decide) (ok_callVI (M' := M_Ta_sumOfRow) (as := [_]) 34 rfl rfl ml_X9_52 (s_Ta_sumOfRow ht hT ⟨by omega, by omega⟩) (sT ht) rfl (Nat.le_of_ble_eq_true rfl) ⟨Nat.le_of_ble_eq_true rfl, Nat.le_of_ble_eq_true rfl⟩ rfl (Nat.le_of_ble_eq_true rfl) (fun σ' z hz => ?_)))
      rw [hz.1, hz.2]
      clear hz z σ'
      refine ok_goto 35 67 rfl rfl rfl (ok_putI 37 rfl rfl fl_X9_22 (sT ht) rfl rfl rfl (ok_vret 38 rfl rfl rfl ?_))
      first
        | exact ⟨rfl, fin _ (Or.inl ⟨rfl, fun q => by have := q.1; omega⟩)⟩
        | exact ⟨rfl, fin _ (Or.inl ⟨rfl, fun q => by have := hm.mpr ⟨q.2.2.1, q.2.2.2⟩; omega⟩)⟩
        | exact ⟨rfl, fin _ (Or.inl ⟨rfl, fun q => by have := q.2.1; omega⟩)⟩
        | (exfalso; omega)
        | exact ⟨rfl, fin _ (Or.inr ⟨⟨by omega, by omega, (hm.mp (by omega)).1, (hm.mp (by omega)).2⟩, rfl⟩)⟩
  · refine ok_aload_n 17 rfl rfl rfl (ok_callVI (M' := M_Ta_firstUneven) (as := []) 18 rfl rfl ml_X9_48 (s_Ta_firstUneven ht hT) (sT ht) rfl (Nat.le_of_ble_eq_true rfl) ⟨Nat.le_of_ble_eq_true rfl, Nat.le_of_ble_eq_true rfl⟩ rfl (Nat.le_of_ble_eq_true rfl) (fun σ' z hz => ?_))
    obtain ⟨hs_, hz⟩ := hz
    rw [hs_]; clear hs_ σ'
    have hm := unev_m1 hz
    refine ok_iconst 19 rfl rfl (by decide) (ok_icmp_ne 20 51 rfl rfl rfl (fun h36 => ?_) (fun h36 => ?_))
    · refine ok_iconst 27 rfl rfl (by decide) (ok_ist3 28 rfl rfl rfl (ok_aload_n 29 rfl rfl rfl (ok_iload_n 30 rfl rfl rfl (ok_if_eq 31 66 rfl rfl rfl (fun h55 => ?_) (fun h55 => ?_)))))
      · refine ok_iconst 36 rfl rfl (by decide) (ok_putI 37 rfl rfl fl_X9_22 (sT ht) rfl rfl rfl (ok_vret 38 rfl rfl rfl ?_))
        first
          | exact ⟨rfl, fin _ (Or.inl ⟨rfl, fun q => by have := q.1; omega⟩)⟩
          | exact ⟨rfl, fin _ (Or.inl ⟨rfl, fun q => by have := hm.mpr ⟨q.2.2.1, q.2.2.2⟩; omega⟩)⟩
          | exact ⟨rfl, fin _ (Or.inl ⟨rfl, fun q => by have := q.2.1; omega⟩)⟩
          | (exfalso; omega)
          | exact ⟨rfl, fin _ (Or.inr ⟨⟨by omega, by omega, (hm.mp (by omega)).1, (hm.mp (by omega)).2⟩, rfl⟩)⟩
      · refine ok_aload_n 32 rfl rfl rfl (ok_iconst 33 rfl rfl (by decide) (ok_callVI (M' := M_Ta_sumOfRow) (as := [_]) 34 rfl rfl ml_X9_52 (s_Ta_sumOfRow ht hT ⟨by omega, by omega⟩) (sT ht) rfl (Nat.le_of_ble_eq_true rfl) ⟨Nat.le_of_ble_eq_true rfl, Nat.le_of_ble_eq_true rfl⟩ rfl (Nat.le_of_ble_eq_true rfl) (fun σ' z hz => ?_)))
        rw [hz.1, hz.2]
        clear hz z σ'
        refine ok_goto 35 67 rfl rfl rfl (ok_putI 37 rfl rfl fl_X9_22 (sT ht) rfl rfl rfl (ok_vret 38 rfl rfl rfl ?_))
        first
          | exact ⟨rfl, fin _ (Or.inl ⟨rfl, fun q => by have := q.1; omega⟩)⟩
          | exact ⟨rfl, fin _ (Or.inl ⟨rfl, fun q => by have := hm.mpr ⟨q.2.2.1, q.2.2.2⟩; omega⟩)⟩
          | exact ⟨rfl, fin _ (Or.inl ⟨rfl, fun q => by have := q.2.1; omega⟩)⟩
          | (exfalso; omega)
          | exact ⟨rfl, fin _ (Or.inr ⟨⟨by omega, by omega, (hm.mp (by omega)).1, (hm.mp (by omega)).2⟩, rfl⟩)⟩
    · refine ok_aload_n 21 rfl rfl rfl (ok_iconst 22 rfl rfl (by decide) (ok_callVI (M' := M_Ta_sumOfRow) (as := [_]) 23 rfl rfl ml_X9_52 (s_Ta_sumOfRow ht hT ⟨by omega, by omega⟩) (sT ht) rfl (Nat.le_of_ble_eq_true rfl) ⟨Nat.le_of_ble_eq_true rfl, Nat.le_of_ble_eq_true rfl⟩ rfl (Nat.le_of_ble_eq_true rfl) (fun σ' z hz => ?_)))
      rw [hz.1, hz.2]
      clear hz z σ'
      refine ok_if_le 24 51 rfl rfl rfl (fun h44 => ?_) (fun h44 => ?_)
      · refine ok_iconst 27 rfl rfl (by decide) (ok_ist3 28 rfl rfl rfl (ok_aload_n 29 rfl rfl rfl (ok_iload_n 30 rfl rfl rfl (ok_if_eq 31 66 rfl rfl rfl (fun h55 => ?_) (fun h55 => ?_)))))
        · refine ok_iconst 36 rfl rfl (by decide) (ok_putI 37 rfl rfl fl_X9_22 (sT ht) rfl rfl rfl (ok_vret 38 rfl rfl rfl ?_))
          first
            | exact ⟨rfl, fin _ (Or.inl ⟨rfl, fun q => by have := q.1; omega⟩)⟩
            | exact ⟨rfl, fin _ (Or.inl ⟨rfl, fun q => by have := hm.mpr ⟨q.2.2.1, q.2.2.2⟩; omega⟩)⟩
            | exact ⟨rfl, fin _ (Or.inl ⟨rfl, fun q => by have := q.2.1; omega⟩)⟩
            | (exfalso; omega)
            | exact ⟨rfl, fin _ (Or.inr ⟨⟨by omega, by omega, (hm.mp (by omega)).1, (hm.mp (by omega)).2⟩, rfl⟩)⟩
        · refine ok_aload_n 32 rfl rfl rfl (ok_iconst 33 rfl rfl (by decide) (ok_callVI (M' := M_Ta_sumOfRow) (as := [_]) 34 rfl rfl ml_X9_52 (s_Ta_sumOfRow ht hT ⟨by omega, by omega⟩) (sT ht) rfl (Nat.le_of_ble_eq_true rfl) ⟨Nat.le_of_ble_eq_true rfl, Nat.le_of_ble_eq_true rfl⟩ rfl (Nat.le_of_ble_eq_true rfl) (fun σ' z hz => ?_)))
          rw [hz.1, hz.2]
          clear hz z σ'
          refine ok_goto 35 67 rfl rfl rfl (ok_putI 37 rfl rfl fl_X9_22 (sT ht) rfl rfl rfl (ok_vret 38 rfl rfl rfl ?_))
          first
            | exact ⟨rfl, fin _ (Or.inl ⟨rfl, fun q => by have := q.1; omega⟩)⟩
            | exact ⟨rfl, fin _ (Or.inl ⟨rfl, fun q => by have := hm.mpr ⟨q.2.2.1, q.2.2.2⟩; omega⟩)⟩
            | exact ⟨rfl, fin _ (Or.inl ⟨rfl, fun q => by have := q.2.1; omega⟩)⟩
            | (exfalso; omega)
            | exact ⟨rfl, fin _ (Or.inr ⟨⟨by omega, by omega, (hm.mp (by omega)).1, (hm.mp (by omega)).2⟩, rfl⟩)⟩
      · refine ok_iconst 25 rfl rfl (by decide) (ok_goto 26 52 rfl rfl rfl (ok_ist3 28 rfl rfl rfl (ok_aload_n 29 rfl rfl rfl (ok_iload_n 30 rfl rfl rfl (ok_if_eq 31 66 rfl rfl rfl (fun h55 => ?_) (fun h55 => ?_))))))
        · refine ok_iconst 36 rfl rfl (by decide) (ok_putI 37 rfl rfl fl_X9_22 (sT ht) rfl rfl rfl (ok_vret 38 rfl rfl rfl ?_))
          first
            | exact ⟨rfl, fin _ (Or.inl ⟨rfl, fun q => by have := q.1; omega⟩)⟩
            | exact ⟨rfl, fin _ (Or.inl ⟨rfl, fun q => by have := hm.mpr ⟨q.2.2.1, q.2.2.2⟩; omega⟩)⟩
            | exact ⟨rfl, fin _ (Or.inl ⟨rfl, fun q => by have := q.2.1; omega⟩)⟩
            | (exfalso; omega)
            | exact ⟨rfl, fin _ (Or.inr ⟨⟨by omega, by omega, (hm.mp (by omega)).1, (hm.mp (by omega)).2⟩, rfl⟩)⟩
        · refine ok_aload_n 32 rfl rfl rfl (ok_iconst 33 rfl rfl (by decide) (ok_callVI (M' := M_Ta_sumOfRow) (as := [_]) 34 rfl rfl ml_X9_52 (s_Ta_sumOfRow ht hT ⟨by omega, by omega⟩) (sT ht) rfl (Nat.le_of_ble_eq_true rfl) ⟨Nat.le_of_ble_eq_true rfl, Nat.le_of_ble_eq_true rfl⟩ rfl (Nat.le_of_ble_eq_true rfl) (fun σ' z hz => ?_)))
          rw [hz.1, hz.2]
          clear hz z σ'
          refine ok_goto 35 67 rfl rfl rfl (ok_putI 37 rfl rfl fl_X9_22 (sT ht) rfl rfl rfl (ok_vret 38 rfl rfl rfl ?_))
          first
            | exact ⟨rfl, fin _ (Or.inl ⟨rfl, fun q => by have := q.1; omega⟩)⟩
            | exact ⟨rfl, fin _ (Or.inl ⟨rfl, fun q => by have := hm.mpr ⟨q.2.2.1, q.2.2.2⟩; omega⟩)⟩
            | exact ⟨rfl, fin _ (Or.inl ⟨rfl, fun q => by have := q.2.1; omega⟩)⟩
            | (exfalso; omega)
            | exact ⟨rfl, fin _ (Or.inr ⟨⟨by omega, by omega, (hm.mp (by omega)).1, (hm.mp (by omega)).2⟩, rfl⟩)⟩
end
section
abbrev rgFi (t : Nat) : Nat → Int → Prop := fun c k => (c = 10 ∧ (k = 4 ∨ k = 5)) ∨ (c = t ∧ (k = 1 ∨ k = 2 ∨ k = 3 ∨ k = 4 ∨ k = 6)) ∨ c = t + 4
theorem mT_cg {σ τ : eS} {t : Nat} (h : mT σ t) (e1 : τ t 1 = σ t 1) (e3 : τ t 3 = σ t 3) (e : ∀ k, τ (t + 4) k = σ (t + 4) k) : mT τ t := by
  have r : rowT τ t = rowT σ t := by funext i; unfold rowT cT; simp only [e1, e]
  have c : colT τ t = colT σ t := by funext i; unfold colT cT; simp only [e1, e]
  unfold mT evT
  rw [r, c, e1, e3]
  exact h
theorem tA_10 {t : Nat} (h : tA t) : t ≠ 10 ∧ t + 4 ≠ 10 ∧ t ≠ 11 ∧ t ≠ 12 ∧ t ≠ 13 ∧ t + 4 ≠ 11 ∧ t + 4 ≠ 12 ∧ t + 4 ≠ 13 ∧ t ≤ 5 ∧ 2 ≤ t := by
  unfold tA at h
  omega
end
section
abbrev rgRI (t : Nat) : Nat → Int → Prop := fun c k => (c = 10 ∧ 3 ≤ k ∧ k ≤ 9) ∨ c = 12 ∨ c = 13 ∨ (c = t ∧ (k = 1 ∨ k = 2 ∨ k = 3 ∨ k = 4 ∨ k = 6)) ∨ c = t + 4
theorem sl_at {s : Int} (h : 0 ≤ s ∧ s < 4) : ([2, 3, 4, 5] : List Nat)[s.toNat]? = some (s.toNat + 2) := by
  rcases (by omega : s = 0 ∨ s = 1 ∨ s = 2 ∨ s = 3) with q | q | q | q <;> subst q <;> rfl
theorem sl_tA {s : Int} (h : 0 ≤ s ∧ s < 4) : tA (s.toNat + 2) := by unfold tA; omega
def SL (s : Int) (z : Option Nat) : Prop := (z = none ∧ ¬ (0 ≤ s ∧ s < 4)) ∨ (0 ≤ s ∧ s < 4 ∧ z = some (s.toNat + 2))
theorem s_Ev_slotAt {σ : eS} {s : Int} : MtR shA M_Ev_slotAt [vr 0, vi s] σ (fun σ' z => σ' = σ ∧ SL s z) := by
  refine Mt.of okM_Ev_slotAt (Nat.le_of_ble_eq_true rfl) (fun hk hg => ?_)
  refine ok_iload_n 0 rfl rfl rfl (ok_if_lt 1 9 rfl rfl rfl (fun h1 => ?_) (fun h1 => ?_))
  · refine ok_null 5 rfl rfl (ok_goto 6 19 rfl rfl rfl (ok_aretN 11 rfl rfl rfl ?_))
    exact ⟨_, rfl, rfl, Or.inl ⟨rfl, by omega⟩⟩
  · refine ok_iload_n 2 rfl rfl rfl (ok_iconst 3 rfl rfl (by decide) (ok_icmp_lt 4 13 rfl rfl rfl (fun h6 => ?_) (fun h6 => ?_)))
    · refine ok_aload_n 7 rfl rfl rfl (ok_getR 8 rfl rfl fl_X11_11 rfl rfl (ok_iload_n 9 rfl rfl rfl (ok_aald 10 (s.toNat + 2) rfl rfl rfl (Or.inl rfl) (by omega) (sl_at (by omega)) (ok_aret 11 rfl rfl rfl ?_))))
      exact ⟨_, rfl, rfl, Or.inr ⟨by omega, by omega, rfl⟩⟩
    · refine ok_null 5 rfl rfl (ok_goto 6 19 rfl rfl rfl (ok_aretN 11 rfl rfl rfl ?_))
      exact ⟨_, rfl, rfl, Or.inl ⟨rfl, by omega⟩⟩
/-- a slot that there is, and what it holds, or null -/
def SF (P : Nat → Prop) (s : Int) (z : Option Nat) : Prop := (z = none ∧ ¬ (0 ≤ s ∧ s < 4 ∧ P (s.toNat + 2))) ∨ (0 ≤ s ∧ s < 4 ∧ z = some (s.toNat + 2) ∧ P (s.toNat + 2))
theorem s_Ev_filledSlot {σ : eS} {s : Int} : MtR shA M_Ev_filledSlot [vr 0, vi s] σ (fun σ' z => σ' = σ ∧ SF (fun t => σ t 1 ≠ 0) s z) := by
  refine Mt.of okM_Ev_filledSlot (Nat.le_of_ble_eq_true rfl) (fun hk hg => ?_)
  refine ok_aload_n 0 rfl rfl rfl (ok_iload_n 1 rfl rfl rfl (ok_callVR (M' := M_Ev_slotAt) (as := [_]) 2 rfl rfl ml_X11_86 (s_Ev_slotAt) rfl rfl (Nat.le_of_ble_eq_true rfl) ⟨Nat.le_of_ble_eq_true rfl, Nat.le_of_ble_eq_true rfl⟩ rfl (Nat.le_of_ble_eq_true rfl) (fun σ' z hz => ?_)))
  obtain ⟨hs_, hz⟩ := hz
  rw [hs_]; clear hs_ σ'
  rcases hz with ⟨q, q2⟩ | ⟨q1, q2, q⟩
  · subst q
    refine ok_ast2 3 rfl rfl rfl (ok_aload_n 4 rfl rfl rfl (ok_ifnullN 5 17 rfl rfl rfl (ok_null 9 rfl rfl (ok_goto 10 22 rfl rfl rfl (ok_aretN 12 rfl rfl rfl ?_)))))
    exact ⟨_, rfl, rfl, Or.inl ⟨rfl, fun w => q2 ⟨w.1, w.2.1⟩⟩⟩
  · subst q
    have ht := sl_tA ⟨q1, q2⟩
    refine ok_ast2 3 rfl rfl rfl (ok_aload_n 4 rfl rfl rfl (ok_ifnull 5 rfl rfl (ok_aload_n 6 rfl rfl rfl (ok_getI 7 rfl rfl fl_X11_103 (sT ht) rfl (Or.inl rfl) (ok_if_ne 8 21 rfl rfl rfl (fun h14 => ?_) (fun h14 => ?_))))))
    · refine ok_aload_n 11 rfl rfl rfl (ok_aret 12 rfl rfl rfl ?_)
      exact ⟨_, rfl, rfl, Or.inr ⟨q1, q2, rfl, h14⟩⟩
    · refine ok_null 9 rfl rfl (ok_goto 10 22 rfl rfl rfl (ok_aretN 12 rfl rfl rfl ?_))
      exact ⟨_, rfl, rfl, Or.inl ⟨rfl, fun w => w.2.2 (by omega)⟩⟩
theorem s_Ev_evenSlot {σ : eS} {s : Int} : MtR shA M_Ev_evenSlot [vr 0, vi s] σ (fun σ' z => σ' = σ ∧ SF (fun t => σ t 3 ≠ -1) s z) := by
  refine Mt.of okM_Ev_evenSlot (Nat.le_of_ble_eq_true rfl) (fun hk hg => ?_)
  refine ok_aload_n 0 rfl rfl rfl (ok_iload_n 1 rfl rfl rfl (ok_callVR (M' := M_Ev_slotAt) (as := [_]) 2 rfl rfl ml_X11_86 (s_Ev_slotAt) rfl rfl (Nat.le_of_ble_eq_true rfl) ⟨Nat.le_of_ble_eq_true rfl, Nat.le_of_ble_eq_true rfl⟩ rfl (Nat.le_of_ble_eq_true rfl) (fun σ' z hz => ?_)))
  obtain ⟨hs_, hz⟩ := hz
  rw [hs_]; clear hs_ σ'
  rcases hz with ⟨q, q2⟩ | ⟨q1, q2, q⟩
  · subst q
    refine ok_ast2 3 rfl rfl rfl (ok_aload_n 4 rfl rfl rfl (ok_ifnullN 5 18 rfl rfl rfl (ok_null 10 rfl rfl (ok_goto 11 23 rfl rfl rfl (ok_aretN 13 rfl rfl rfl ?_)))))
    exact ⟨_, rfl, rfl, Or.inl ⟨rfl, fun w => q2 ⟨w.1, w.2.1⟩⟩⟩
  · subst q
    have ht := sl_tA ⟨q1, q2⟩
    refine ok_ast2 3 rfl rfl rfl (ok_aload_n 4 rfl rfl rfl (ok_ifnull 5 rfl rfl (ok_aload_n 6 rfl rfl rfl (ok_getI 7 rfl rfl fl_X11_109 (sT ht) rfl (Or.inl rfl) (ok_iconst 8 rfl rfl (by decide) (ok_icmp_ne 9 22 rfl rfl rfl (fun h15 => ?_) (fun h15 => ?_)))))))
    · refine ok_aload_n 12 rfl rfl rfl (ok_aret 13 rfl rfl rfl ?_)
      exact ⟨_, rfl, rfl, Or.inr ⟨q1, q2, rfl, h15⟩⟩
    · refine ok_null 10 rfl rfl (ok_goto 11 23 rfl rfl rfl (ok_aretN 13 rfl rfl rfl ?_))
      exact ⟨_, rfl, rfl, Or.inl ⟨rfl, fun w => w.2.2 (by omega)⟩⟩
end
section
/-! counting bits; joins as longs -/
def bc1 (a : Int) : Int := wr (a - iand (iushr a 1) 1431655765)
def bc2 (a : Int) : Int := wr (iand a 858993459 + iand (iushr a 2) 858993459)
def bc3 (a : Int) : Int := iand (wr (a + iushr a 4)) 252645135
def bc4 (a : Int) : Int := wr (a + iushr a 8)
def bc5 (a : Int) : Int := wr (a + iushr a 16)
def bcI (a : Int) : Int := iand (bc5 (bc4 (bc3 (bc2 (bc1 a))))) 63
theorem bc_pc : ∀ s : Fin 256, bcI (s.val : Int) = pc (s.val : Int) := by decide +kernel
theorem bcP {s : Int} (h : 0 ≤ s ∧ s < 256) : bcI s = pc s := fin1 (P := fun s => bcI s = pc s) bc_pc h.1 h.2
theorem s_Ji_bitCount {σ : eS} {a : Int} : MtI shA M_Ji_bitCount [vi a] σ (fun σ' z => σ' = σ ∧ z = bcI a) := by
  refine Mt.of okM_Ji_bitCount (Nat.le_of_ble_eq_true rfl) (fun hk hg => ?_)
  refine ok_iload_n 0 rfl rfl rfl (ok_iload_n 1 rfl rfl rfl (ok_iconst 2 rfl rfl (by decide) (ok_iushr 3 rfl rfl (ok_ldcw 4 (1431655765) rfl rfl kc_J6_265 (by decide) (ok_iand 5 rfl rfl (ok_isubW 6 rfl rfl (ok_ist0 7 rfl rfl (ok_iload_n 8 rfl rfl rfl (ok_ldcw 9 (858993459) rfl rfl kc_J6_266 (by decide) (ok_iand 10 rfl rfl (ok_iload_n 11 rfl rfl rfl (ok_iconst 12 rfl rfl (by decide) (ok_iushr 13 rfl rfl (ok_ldcw 14 (858993459) rfl rfl kc_J6_266 (by decide) (ok_iand 15 rfl rfl (ok_iaddW 16 rfl rfl (ok_ist0 17 rfl rfl (ok_iload_n 18 rfl rfl rfl (ok_iload_n 19 rfl rfl rfl (ok_iconst 20 rfl rfl (by decide) (ok_iushr 21 rfl rfl (ok_iaddW 22 rfl rfl (ok_ldcw 23 (252645135) rfl rfl kc_J6_267 (by decide) (ok_iand 24 rfl rfl (ok_ist0 25 rfl rfl (ok_iload_n 26 rfl rfl rfl (ok_iload_n 27 rfl rfl rfl (ok_bipush 28 rfl rfl (by decide) (by decide) (ok_iushr 29 rfl rfl (ok_iaddW 30 rfl rfl (ok_ist0 31 rfl rfl (ok_iload_n 32 rfl rfl rfl (ok_iload_n 33 rfl rfl rfl (ok_bipush 34 rfl rfl (by decide) (by decide) (ok_iushr 35 rfl rfl (ok_iaddW 36 rfl rfl (ok_ist0 37 rfl rfl (ok_iload_n 38 rfl rfl rfl (ok_bipush 39 rfl rfl (by decide) (by decide) (ok_iand 40 rfl rfl (ok_iret 41 rfl rfl rfl ?_)))))))))))))))))))))))))))))))))))))))))
  exact ⟨_, rfl, rfl, rfl⟩
theorem s_Jl_bitCount {σ : eS} {a : Int} : MtI shA M_Jl_bitCount [vl a] σ (fun σ' _ => σ' = σ ∧ True) := by
  refine Mt.of okM_Jl_bitCount (Nat.le_of_ble_eq_true rfl) (fun hk hg => ?_)
  refine ok_lload_n 0 rfl rfl rfl (ok_lload_n 1 rfl rfl rfl (ok_iconst 2 rfl rfl (by decide) (ok_lushr 3 rfl rfl (ok_ldc2 4 (6148914691236517205) rfl rfl kc_J13_314 (by decide) (ok_land 5 rfl rfl (ok_lsubW 6 rfl rfl (ok_lst0 7 rfl rfl (ok_lload_n 8 rfl rfl rfl (ok_ldc2 9 (3689348814741910323) rfl rfl kc_J13_316 (by decide) (ok_land 10 rfl rfl (ok_lload_n 11 rfl rfl rfl (ok_iconst 12 rfl rfl (by decide) (ok_lushr 13 rfl rfl (ok_ldc2 14 (3689348814741910323) rfl rfl kc_J13_316 (by decide) (ok_land 15 rfl rfl (ok_laddW 16 rfl rfl (ok_lst0 17 rfl rfl (ok_lload_n 18 rfl rfl rfl (ok_lload_n 19 rfl rfl rfl (ok_iconst 20 rfl rfl (by decide) (ok_lushr 21 rfl rfl (ok_laddW 22 rfl rfl (ok_ldc2 23 (1085102592571150095) rfl rfl kc_J13_318 (by decide) (ok_land 24 rfl rfl (ok_lst0 25 rfl rfl (ok_lload_n 26 rfl rfl rfl (ok_lload_n 27 rfl rfl rfl (ok_bipush 28 rfl rfl (by decide) (by decide) (ok_lushr 29 rfl rfl (ok_laddW 30 rfl rfl (ok_lst0 31 rfl rfl (ok_lload_n 32 rfl rfl rfl (ok_lload_n 33 rfl rfl rfl (ok_bipush 34 rfl rfl (by decide) (by decide) (ok_lushr 35 rfl rfl (ok_laddW 36 rfl rfl (ok_lst0 37 rfl rfl (ok_lload_n 38 rfl rfl rfl (ok_lload_n 39 rfl rfl rfl (ok_bipush 40 rfl rfl (by decide) (by decide) (ok_lushr 41 rfl rfl (ok_laddW 42 rfl rfl (ok_lst0 43 rfl rfl (ok_lload_n 44 rfl rfl rfl (ok_l2iW 45 rfl rfl (ok_bipush 46 rfl rfl (by decide) (by decide) (ok_iand 47 rfl rfl (ok_iret 48 rfl rfl rfl ?_))))))))))))))))))))))))))))))))))))))))))))))))
  exact ⟨_, rfl, rfl, trivial⟩
def rowJ (J r : Int) : Int := wr (land (lushr J (wr (r * 8))) 255)
theorem s_Jo_rowOf {σ : eS} {J r : Int} : MtI shA M_Jo_rowOf [vl J, vi r] σ (fun σ' z => σ' = σ ∧ z = rowJ J r) := by
  refine Mt.of okM_Jo_rowOf (Nat.le_of_ble_eq_true rfl) (fun hk hg => ?_)
  refine ok_lload_n 0 rfl rfl rfl (ok_iload_n 1 rfl rfl rfl (ok_bipush 2 rfl rfl (by decide) (by decide) (ok_imulW 3 rfl rfl (ok_lushr 4 rfl rfl (ok_ldc2 5 (255) rfl rfl kc_X1_11 (by decide) (ok_land 6 rfl rfl (ok_l2iW 7 rfl rfl (ok_iret 8 rfl rfl rfl ?_))))))))
  exact ⟨_, rfl, rfl, rfl⟩
theorem s_Jo_of {σ : eS} {c : Nat} {n m : Int} (hs : nth shA c = some (1, 64, [])) (hn : n ≤ 8) : MtL shA M_Jo_of [vr c, vi n, vi m] σ (fun σ' _ => σ' = σ ∧ True) := by
  refine Mt.of okM_Jo_of (Nat.le_of_ble_eq_true rfl) (fun hk hg => ?_)
  refine ok_lconst (w := 0) 0 rfl rfl rfl (by decide) (ok_lst3 1 rfl rfl rfl (ok_iconst 2 rfl rfl (by decide) (ok_ist5 3 rfl rfl rfl ?_)))
  refine lpO2 (fun v i : Int => [some (vr c), some (vi n), some (vi m), some (vl v), none, some (vi i), none, none]) (fun _ _ => σ) (fun _ i => 0 ≤ i ∧ i ≤ 8) (fun _ i => (8 - i).toNat) ?_ 0 0 ⟨by omega, by omega⟩
  rintro v i ⟨i1, i2⟩ ih
  refine ok_iload 4 rfl rfl rfl (ok_iload_n 5 rfl rfl rfl (ok_icmp_ge 6 57 rfl rfl rfl (fun h8 => ?_) (fun h8 => ?_)))
  · refine ok_lload_n 33 rfl rfl rfl (ok_lret 34 rfl rfl rfl ?_)
    exact ⟨_, rfl, rfl, trivial⟩
  · refine ok_iconst 7 rfl rfl (by decide) (ok_ist6 8 rfl rfl rfl ?_)
    refine lpO2 (fun v j : Int => [some (vr c), some (vi n), some (vi m), some (vl v), none, some (vi i), some (vi j), none]) (fun _ _ => σ) (fun _ j => 0 ≤ j ∧ j ≤ 8) (fun _ j => (8 - j).toNat) ?_ v 0 ⟨by omega, by omega⟩
    clear v
    rintro v j ⟨j1, j2⟩ ih2
    refine ok_iload 9 rfl rfl rfl (ok_iload_n 10 rfl rfl rfl (ok_icmp_ge 11 51 rfl rfl rfl (fun h17 => ?_) (fun h17 => ?_)))
    · refine ok_inc5 31 rfl rfl rfl (by first | omega | (simp [up_if]; omega) | (simp [up_if] at *; omega)) (ok_goto 32 5 rfl rfl rfl ?_)
      exact ok_fg [some (vr c), some (vi n), some (vi m), some (vl _), none, some (vi (i + 1)), none, none] ⟨rfl, rfl, rfl, rfl, rfl, trivial⟩ (ih _ (i + 1) ⟨by omega, by omega⟩ (by omega))
    · refine ok_iload 12 rfl rfl rfl (ok_bipush 13 rfl rfl (by decide) (by decide) (ok_imul 14 rfl rfl (by first | omega | (simp [up_if]; omega) | (simp [up_if] at *; omega)) (ok_iload 15 rfl rfl rfl (ok_iadd 16 rfl rfl (by first | omega | (simp [up_if]; omega) | (simp [up_if] at *; omega)) (ok_ist7 17 rfl rfl rfl (ok_aload_n 18 rfl rfl rfl (ok_iload 19 rfl rfl rfl (ok_iald 20 rfl rfl hs (by first | omega | (simp [up_if]; omega) | (simp [up_if] at *; omega)) (ok_iload_n 21 rfl rfl rfl (ok_icmp_lt 22 45 rfl rfl rfl (fun h35 => ?_) (fun h35 => ?_)))))))))))
      · refine ok_inc6 29 rfl rfl rfl (by first | omega | (simp [up_if]; omega) | (simp [up_if] at *; omega)) (ok_goto 30 14 rfl rfl rfl ?_)
        exact ok_fg [some (vr c), some (vi n), some (vi m), some (vl _), none, some (vi i), some (vi (j + 1)), none] ⟨rfl, rfl, rfl, rfl, rfl, rfl, trivial⟩ (ih2 _ (j + 1) ⟨by omega, by omega⟩ (by omega))
      · refine ok_lload_n 23 rfl rfl rfl (ok_lconst (w := 1) 24 rfl rfl rfl (by decide) (ok_iload 25 rfl rfl rfl (ok_lshl 26 rfl rfl (ok_lor 27 rfl rfl (ok_lst3 28 rfl rfl rfl (ok_inc6 29 rfl rfl rfl (by first | omega | (simp [up_if]; omega) | (simp [up_if] at *; omega)) (ok_goto 30 14 rfl rfl rfl ?_)))))))
        exact ok_fg [some (vr c), some (vi n), some (vi m), some (vl _), none, some (vi i), some (vi (j + 1)), none] ⟨rfl, rfl, rfl, rfl, rfl, rfl, trivial⟩ (ih2 _ (j + 1) ⟨by omega, by omega⟩ (by omega))
theorem s_Jo_columnsOf {σ : eS} {J s n : Int} (hn : n ≤ 8) : MtI shA M_Jo_columnsOf [vl J, vi s, vi n] σ (fun σ' _ => σ' = σ ∧ True) := by
  refine Mt.of okM_Jo_columnsOf (Nat.le_of_ble_eq_true rfl) (fun hk hg => ?_)
  refine ok_iconst 0 rfl rfl (by decide) (ok_ist4 1 rfl rfl rfl (ok_iconst 2 rfl rfl (by decide) (ok_ist5 3 rfl rfl rfl ?_)))
  refine lpO2 (fun v j : Int => [some (vl J), none, some (vi s), some (vi n), some (vi v), some (vi j)]) (fun _ _ => σ) (fun _ j => 0 ≤ j ∧ j ≤ 8) (fun _ j => (8 - j).toNat) ?_ 0 0 ⟨by omega, by omega⟩
  rintro v j ⟨j1, j2⟩ ih
  refine ok_iload 4 rfl rfl rfl (ok_iload_n 5 rfl rfl rfl (ok_icmp_ge 6 38 rfl rfl rfl (fun h9 => ?_) (fun h9 => ?_)))
  · refine ok_iload 21 rfl rfl rfl (ok_iret 22 rfl rfl rfl ?_)
    exact ⟨_, rfl, rfl, trivial⟩
  · refine ok_iload_n 7 rfl rfl rfl (ok_iload 8 rfl rfl rfl (ok_ishr 9 rfl rfl (ok_iconst 10 rfl rfl (by decide) (ok_iand 11 rfl rfl (ok_if_eq 12 32 rfl rfl rfl (fun h18 => ?_) (fun h18 => ?_))))))
    · refine ok_inc5 19 rfl rfl rfl (by first | omega | (simp [up_if]; omega) | (simp [up_if] at *; omega)) (ok_goto 20 6 rfl rfl rfl ?_)
      exact ih _ (j + 1) ⟨by omega, by omega⟩ (by omega)
    · refine ok_iload 13 rfl rfl rfl (ok_lload_n 14 rfl rfl rfl (ok_iload 15 rfl rfl rfl (ok_callSI (M' := M_Jo_rowOf) (as := [_, _]) 16 rfl rfl ml_X1_17 (s_Jo_rowOf) ⟨Nat.le_of_ble_eq_true rfl, Nat.le_of_ble_eq_true rfl⟩ rfl (Nat.le_of_ble_eq_true rfl) (fun σ' z hz => ?_))))
      rw [hz.1, hz.2]
      clear hz z σ'
      refine ok_ior 17 rfl rfl (ok_ist4 18 rfl rfl rfl (ok_inc5 19 rfl rfl rfl (by first | omega | (simp [up_if]; omega) | (simp [up_if] at *; omega)) (ok_goto 20 6 rfl rfl rfl ?_)))
      exact ih _ (j + 1) ⟨by omega, by omega⟩ (by omega)
theorem s_Jo_rowsOf {σ : eS} {J s n : Int} (hn : n ≤ 8) : MtI shA M_Jo_rowsOf [vl J, vi s, vi n] σ (fun σ' _ => σ' = σ ∧ True) := by
  refine Mt.of okM_Jo_rowsOf (Nat.le_of_ble_eq_true rfl) (fun hk hg => ?_)
  refine ok_iconst 0 rfl rfl (by decide) (ok_ist4 1 rfl rfl rfl (ok_iconst 2 rfl rfl (by decide) (ok_ist5 3 rfl rfl rfl ?_)))
  refine lpO2 (fun v j : Int => [some (vl J), none, some (vi s), some (vi n), some (vi v), some (vi j)]) (fun _ _ => σ) (fun _ j => 0 ≤ j ∧ j ≤ 8) (fun _ j => (8 - j).toNat) ?_ 0 0 ⟨by omega, by omega⟩
  rintro v j ⟨j1, j2⟩ ih
  refine ok_iload 4 rfl rfl rfl (ok_iload_n 5 rfl rfl rfl (ok_icmp_ge 6 38 rfl rfl rfl (fun h9 => ?_) (fun h9 => ?_)))
  · refine ok_iload 21 rfl rfl rfl (ok_iret 22 rfl rfl rfl ?_)
    exact ⟨_, rfl, rfl, trivial⟩
  · refine ok_lload_n 7 rfl rfl rfl (ok_iload 8 rfl rfl rfl (ok_callSI (M' := M_Jo_rowOf) (as := [_, _]) 9 rfl rfl ml_X1_17 (s_Jo_rowOf) ⟨Nat.le_of_ble_eq_true rfl, Nat.le_of_ble_eq_true rfl⟩ rfl (Nat.le_of_ble_eq_true rfl) (fun σ' z hz => ?_)))
    rw [hz.1, hz.2]
    clear hz z σ'
    refine ok_iload_n 10 rfl rfl rfl (ok_iand 11 rfl rfl (ok_if_eq 12 32 rfl rfl rfl (fun h20 => ?_) (fun h20 => ?_)))
    · refine ok_inc5 19 rfl rfl rfl (by first | omega | (simp [up_if]; omega) | (simp [up_if] at *; omega)) (ok_goto 20 6 rfl rfl rfl ?_)
      exact ih _ (j + 1) ⟨by omega, by omega⟩ (by omega)
    · refine ok_iload 13 rfl rfl rfl (ok_iconst 14 rfl rfl (by decide) (ok_iload 15 rfl rfl rfl (ok_ishl 16 rfl rfl (ok_ior 17 rfl rfl (ok_ist4 18 rfl rfl rfl (ok_inc5 19 rfl rfl rfl (by first | omega | (simp [up_if]; omega) | (simp [up_if] at *; omega)) (ok_goto 20 6 rfl rfl rfl ?_)))))))
      exact ih _ (j + 1) ⟨by omega, by omega⟩ (by omega)
theorem s_Jo_groupOf {σ : eS} {J r n : Int} (hn : n ≤ 8) : MtI shA M_Jo_groupOf [vl J, vi r, vi n] σ (fun σ' _ => σ' = σ ∧ True) := by
  refine Mt.of okM_Jo_groupOf (Nat.le_of_ble_eq_true rfl) (fun hk hg => ?_)
  refine ok_iconst 0 rfl rfl (by decide) (ok_iload_n 1 rfl rfl rfl (ok_ishl 2 rfl rfl (ok_ist4 3 rfl rfl rfl (ok_iconst 4 rfl rfl (by decide) (ok_ist5 5 rfl rfl rfl ?_)))))
  refine lpO2 (fun v j : Int => [some (vl J), none, some (vi r), some (vi n), some (vi v), some (vi j)]) (fun _ _ => σ) (fun _ j => 0 ≤ j ∧ j ≤ 8) (fun _ j => (8 - j).toNat) ?_ (ishl 1 r) 0 ⟨by omega, by omega⟩
  rintro v j ⟨j1, j2⟩ ih
  refine ok_iload 6 rfl rfl rfl (ok_iload_n 7 rfl rfl rfl (ok_icmp_ge 8 37 rfl rfl rfl (fun h11 => ?_) (fun h11 => ?_)))
  · refine ok_iload 21 rfl rfl rfl (ok_iret 22 rfl rfl rfl ?_)
    exact ⟨_, rfl, rfl, trivial⟩
  · refine ok_iload 9 rfl rfl rfl (ok_lload_n 10 rfl rfl rfl (ok_lload_n 11 rfl rfl rfl (ok_iload 12 rfl rfl rfl (ok_iload_n 13 rfl rfl rfl (ok_callSI (M' := M_Jo_columnsOf) (as := [_, _, _]) 14 rfl rfl ml_X1_25 (s_Jo_columnsOf hn) ⟨Nat.le_of_ble_eq_true rfl, Nat.le_of_ble_eq_true rfl⟩ rfl (Nat.le_of_ble_eq_true rfl) (fun σ' z1 x1 => ?_))))))
    obtain ⟨hs_, x1⟩ := x1
    rw [hs_]; clear hs_ σ'
    refine ok_iload_n 15 rfl rfl rfl (ok_callSI (M' := M_Jo_rowsOf) (as := [_, _, _]) 16 rfl rfl ml_X1_34 (s_Jo_rowsOf hn) ⟨Nat.le_of_ble_eq_true rfl, Nat.le_of_ble_eq_true rfl⟩ rfl (Nat.le_of_ble_eq_true rfl) (fun σ' z2 x2 => ?_))
    obtain ⟨hs_, x2⟩ := x2
    rw [hs_]; clear hs_ σ'
    refine ok_ior 17 rfl rfl (ok_ist4 18 rfl rfl rfl (ok_inc5 19 rfl rfl rfl (by first | omega | (simp [up_if]; omega) | (simp [up_if] at *; omega)) (ok_goto 20 8 rfl rfl rfl ?_)))
    exact ih _ (j + 1) ⟨by omega, by omega⟩ (by omega)
theorem s_Jo_countGroups {σ : eS} {J n : Int} (hn : n ≤ 8) : MtI shA M_Jo_countGroups [vl J, vi n] σ (fun σ' _ => σ' = σ ∧ True) := by
  refine Mt.of okM_Jo_countGroups (Nat.le_of_ble_eq_true rfl) (fun hk hg => ?_)
  refine ok_iconst 0 rfl rfl (by decide) (ok_ist3 1 rfl rfl rfl (ok_iconst 2 rfl rfl (by decide) (ok_ist4 3 rfl rfl rfl (ok_iconst 4 rfl rfl (by decide) (ok_ist5 5 rfl rfl rfl ?_)))))
  refine lpO3 (fun g v j : Int => [some (vl J), none, some (vi n), some (vi g), some (vi v), some (vi j)]) (fun _ _ _ => σ) (fun g _ j => 0 ≤ j ∧ j ≤ 8 ∧ 0 ≤ g ∧ g ≤ j) (fun _ _ j => (8 - j).toNat) ?_ 0 0 0 ⟨by omega, by omega, by omega, by omega⟩
  rintro g v j ⟨j1, j2, g1, g2⟩ ih
  refine ok_iload 6 rfl rfl rfl (ok_iload_n 7 rfl rfl rfl (ok_icmp_ge 8 45 rfl rfl rfl (fun h11 => ?_) (fun h11 => ?_)))
  · refine ok_iload_n 25 rfl rfl rfl (ok_lload_n 26 rfl rfl rfl (ok_iload 27 rfl rfl rfl (ok_iload_n 28 rfl rfl rfl (ok_callSI (M' := M_Jo_columnsOf) (as := [_, _, _]) 29 rfl rfl ml_X1_25 (s_Jo_columnsOf hn) ⟨Nat.le_of_ble_eq_true rfl, Nat.le_of_ble_eq_true rfl⟩ rfl (Nat.le_of_ble_eq_true rfl) (fun σ' z2 x2 => ?_)))))
    obtain ⟨hs_, x2⟩ := x2
    rw [hs_]; clear hs_ σ'
    refine ok_callSI (M' := M_Ji_bitCount) (as := [_]) 30 rfl rfl ml_X1_28 (s_Ji_bitCount) ⟨Nat.le_of_ble_eq_true rfl, Nat.le_of_ble_eq_true rfl⟩ rfl (Nat.le_of_ble_eq_true rfl) (fun σ' z hz => ?_)
    rw [hz.1, hz.2]
    clear hz z σ'
    refine ok_isubW 31 rfl rfl (ok_ist5 32 rfl rfl rfl (ok_iload_n 33 rfl rfl rfl (ok_iload 34 rfl rfl rfl (ok_iaddW 35 rfl rfl (ok_iret 36 rfl rfl rfl ?_)))))
    exact ⟨_, rfl, rfl, trivial⟩
  · refine ok_iload 9 rfl rfl rfl (ok_iload 10 rfl rfl rfl (ok_ishr 11 rfl rfl (ok_iconst 12 rfl rfl (by decide) (ok_iand 13 rfl rfl (ok_if_ne 14 39 rfl rfl rfl (fun h21 => ?_) (fun h21 => ?_))))))
    · refine ok_inc5 23 rfl rfl rfl (by first | omega | (simp [up_if]; omega) | (simp [up_if] at *; omega)) (ok_goto 24 8 rfl rfl rfl ?_)
      exact ih _ _ (j + 1) ⟨by omega, by omega, by omega, by omega⟩ (by omega)
    · refine ok_iload 15 rfl rfl rfl (ok_lload_n 16 rfl rfl rfl (ok_iload 17 rfl rfl rfl (ok_iload_n 18 rfl rfl rfl (ok_callSI (M' := M_Jo_groupOf) (as := [_, _, _]) 19 rfl rfl ml_X1_21 (s_Jo_groupOf hn) ⟨Nat.le_of_ble_eq_true rfl, Nat.le_of_ble_eq_true rfl⟩ rfl (Nat.le_of_ble_eq_true rfl) (fun σ' z1 x1 => ?_)))))
      obtain ⟨hs_, x1⟩ := x1
      rw [hs_]; clear hs_ σ'
      refine ok_ior 20 rfl rfl (ok_ist4 21 rfl rfl rfl (ok_inc3 22 rfl rfl rfl (by first | omega | (simp [up_if]; omega) | (simp [up_if] at *; omega)) (ok_inc5 23 rfl rfl rfl (by first | omega | (simp [up_if]; omega) | (simp [up_if] at *; omega)) (ok_goto 24 8 rfl rfl rfl ?_))))
      exact ih _ _ (j + 1) ⟨by omega, by omega, by omega, by omega⟩ (by omega)
theorem s_Jo_through {σ : eS} {J r c : Int} : MtL shA M_Jo_through [vl J, vi r, vi c] σ (fun σ' _ => σ' = σ ∧ True) := by
  refine Mt.of okM_Jo_through (Nat.le_of_ble_eq_true rfl) (fun hk hg => ?_)
  refine ok_ldc2 0 (255) rfl rfl kc_X1_11 (by decide) (ok_iload_n 1 rfl rfl rfl (ok_bipush 2 rfl rfl (by decide) (by decide) (ok_imulW 3 rfl rfl (ok_lshl 4 rfl rfl (ok_ldc2 5 (72340172838076673) rfl rfl kc_X1_13 (by decide) (ok_iload_n 6 rfl rfl rfl (ok_lshl 7 rfl rfl (ok_lor 8 rfl rfl (ok_lst4 9 rfl rfl rfl (ok_lload_n 10 rfl rfl rfl (ok_lload 11 rfl rfl rfl (ok_ldc2 12 (-1) rfl rfl kc_X1_15 (by decide) (ok_lxor 13 rfl rfl (ok_land 14 rfl rfl (ok_lconst (w := 1) 15 rfl rfl rfl (by decide) (ok_iload_n 16 rfl rfl rfl (ok_bipush 17 rfl rfl (by decide) (by decide) (ok_imulW 18 rfl rfl (ok_iload_n 19 rfl rfl rfl (ok_iaddW 20 rfl rfl (ok_lshl 21 rfl rfl (ok_lor 22 rfl rfl (ok_lret 23 rfl rfl rfl ?_)))))))))))))))))))))))
  exact ⟨_, rfl, rfl, trivial⟩
theorem s_Ta_joinedBy {σ : eS} {t : Nat} {m : Int} (ht : tA t) (hT : iT σ t) : MtL shA M_Ta_joinedBy [vr t, vi m] σ (fun σ' _ => σ' = σ ∧ True) := by
  refine Mt.of okM_Ta_joinedBy (Nat.le_of_ble_eq_true rfl) (fun hk hg => ?_)
  refine ok_aload_n 0 rfl rfl rfl (ok_getR 1 rfl rfl fl_X9_9 (sT ht) rfl (ok_aload_n 2 rfl rfl rfl (ok_getI 3 rfl rfl fl_X9_15 (sT ht) rfl (Or.inl rfl) (ok_iload_n 4 rfl rfl rfl (ok_callSL (M' := M_Jo_of) (as := [_, _, _]) 5 rfl rfl ml_X9_56 (s_Jo_of (sC ht) hT.2.1) ⟨Nat.le_of_ble_eq_true rfl, Nat.le_of_ble_eq_true rfl⟩ rfl (Nat.le_of_ble_eq_true rfl) (fun σ' z hz => ?_))))))
  obtain ⟨hs_, hz⟩ := hz
  rw [hs_]; clear hs_ σ'
  refine ok_lret 6 rfl rfl rfl ?_
  exact ⟨_, rfl, rfl, trivial⟩
theorem s_Ta_countAbove0 {σ : eS} {t : Nat} (ht : tA t) (hT : iT σ t) : MtI shA M_Ta_countAbove0 [vr t] σ (fun σ' _ => σ' = σ ∧ True) := by
  refine Mt.of okM_Ta_countAbove0 (Nat.le_of_ble_eq_true rfl) (fun hk hg => ?_)
  refine ok_aload_n 0 rfl rfl rfl (ok_iconst 1 rfl rfl (by decide) (ok_callVL (M' := M_Ta_joinedBy) (as := [_]) 2 rfl rfl ml_X9_65 (s_Ta_joinedBy ht hT) (sT ht) rfl (Nat.le_of_ble_eq_true rfl) ⟨Nat.le_of_ble_eq_true rfl, Nat.le_of_ble_eq_true rfl⟩ rfl (Nat.le_of_ble_eq_true rfl) (fun σ' z hz => ?_)))
  obtain ⟨hs_, hz⟩ := hz
  rw [hs_]; clear hs_ σ'
  refine ok_callSI (M' := M_Jl_bitCount) (as := [_]) 3 rfl rfl ml_X9_69 (s_Jl_bitCount) ⟨Nat.le_of_ble_eq_true rfl, Nat.le_of_ble_eq_true rfl⟩ rfl (Nat.le_of_ble_eq_true rfl) (fun σ' z2 hz2 => ?_)
  obtain ⟨hs_, hz2⟩ := hz2
  rw [hs_]; clear hs_ σ'
  refine ok_iret 4 rfl rfl rfl ?_
  exact ⟨_, rfl, rfl, trivial⟩
end
section
section E7
variable {sh : eSh} {M : eM} {pc pc' : Nat} {ls : List (Option eV)} {st : List eV} {σ : eS} {Q : eS → Option eV → Prop}
theorem ok_ist18 (i : Nat) {r : List (Option eV)} {x0 x1 x2 x3 x4 x5 x6 x7 x8 x9 x10 x11 x12 x13 x14 x15 x16 x17 y : Option eV} {z : Int} (hd : nth (eTab M) i = some (pc, .istore 18, pc')) (hn : pc + 2 = pc') (hp : eNl x17 = true) (k : Ok sh M pc' (x0 :: x1 :: x2 :: x3 :: x4 :: x5 :: x6 :: x7 :: x8 :: x9 :: x10 :: x11 :: x12 :: x13 :: x14 :: x15 :: x16 :: x17 :: some (vi z) :: r) st σ Q) : Ok sh M pc (x0 :: x1 :: x2 :: x3 :: x4 :: x5 :: x6 :: x7 :: x8 :: x9 :: x10 :: x11 :: x12 :: x13 :: x14 :: x15 :: x16 :: x17 :: y :: r) (vi z :: st) σ Q :=
  og_len fun h => og_istore (k := 18) i hd hn (by rw [← h]; simp) (by show Ok sh M pc' (x0 :: x1 :: x2 :: x3 :: x4 :: x5 :: x6 :: x7 :: x8 :: x9 :: x10 :: x11 :: x12 :: x13 :: x14 :: x15 :: x16 :: eClr x17 :: some (vi z) :: r) st σ Q; rw [eClr_id hp]; exact k)
theorem ok_inc18 (i : Nat) {r : List (Option eV)} {x0 x1 x2 x3 x4 x5 x6 x7 x8 x9 x10 x11 x12 x13 x14 x15 x16 x17 : Option eV} {n z : Int} (hd : nth (eTab M) i = some (pc, .iinc 18 n, pc')) (hn : pc + 3 = pc') (hp : eNl x17 = true) (hr : rg (z + n)) (k : Ok sh M pc' (x0 :: x1 :: x2 :: x3 :: x4 :: x5 :: x6 :: x7 :: x8 :: x9 :: x10 :: x11 :: x12 :: x13 :: x14 :: x15 :: x16 :: x17 :: some (vi (z + n)) :: r) st σ Q) : Ok sh M pc (x0 :: x1 :: x2 :: x3 :: x4 :: x5 :: x6 :: x7 :: x8 :: x9 :: x10 :: x11 :: x12 :: x13 :: x14 :: x15 :: x16 :: x17 :: some (vi z) :: r) st σ Q :=
  og_iinc (k := 18) i hd hn rfl hr (by show Ok sh M pc' (x0 :: x1 :: x2 :: x3 :: x4 :: x5 :: x6 :: x7 :: x8 :: x9 :: x10 :: x11 :: x12 :: x13 :: x14 :: x15 :: x16 :: eClr x17 :: some (vi (z + n)) :: r) st σ Q; rw [eClr_id hp]; exact k)
theorem ok_ist19 (i : Nat) {r : List (Option eV)} {x0 x1 x2 x3 x4 x5 x6 x7 x8 x9 x10 x11 x12 x13 x14 x15 x16 x17 x18 y : Option eV} {z : Int} (hd : nth (eTab M) i = some (pc, .istore 19, pc')) (hn : pc + 2 = pc') (hp : eNl x18 = true) (k : Ok sh M pc' (x0 :: x1 :: x2 :: x3 :: x4 :: x5 :: x6 :: x7 :: x8 :: x9 :: x10 :: x11 :: x12 :: x13 :: x14 :: x15 :: x16 :: x17 :: x18 :: some (vi z) :: r) st σ Q) : Ok sh M pc (x0 :: x1 :: x2 :: x3 :: x4 :: x5 :: x6 :: x7 :: x8 :: x9 :: x10 :: x11 :: x12 :: x13 :: x14 :: x15 :: x16 :: x17 :: x18 :: y :: r) (vi z :: st) σ Q :=
  og_len fun h => og_istore (k := 19) i hd hn (by rw [← h]; simp) (by show Ok sh M pc' (x0 :: x1 :: x2 :: x3 :: x4 :: x5 :: x6 :: x7 :: x8 :: x9 :: x10 :: x11 :: x12 :: x13 :: x14 :: x15 :: x16 :: x17 :: eClr x18 :: some (vi z) :: r) st σ Q; rw [eClr_id hp]; exact k)
theorem ok_inc19 (i : Nat) {r : List (Option eV)} {x0 x1 x2 x3 x4 x5 x6 x7 x8 x9 x10 x11 x12 x13 x14 x15 x16 x17 x18 : Option eV} {n z : Int} (hd : nth (eTab M) i = some (pc, .iinc 19 n, pc')) (hn : pc + 3 = pc') (hp : eNl x18 = true) (hr : rg (z + n)) (k : Ok sh M pc' (x0 :: x1 :: x2 :: x3 :: x4 :: x5 :: x6 :: x7 :: x8 :: x9 :: x10 :: x11 :: x12 :: x13 :: x14 :: x15 :: x16 :: x17 :: x18 :: some (vi (z + n)) :: r) st σ Q) : Ok sh M pc (x0 :: x1 :: x2 :: x3 :: x4 :: x5 :: x6 :: x7 :: x8 :: x9 :: x10 :: x11 :: x12 :: x13 :: x14 :: x15 :: x16 :: x17 :: x18 :: some (vi z) :: r) st σ Q :=
  og_iinc (k := 19) i hd hn rfl hr (by show Ok sh M pc' (x0 :: x1 :: x2 :: x3 :: x4 :: x5 :: x6 :: x7 :: x8 :: x9 :: x10 :: x11 :: x12 :: x13 :: x14 :: x15 :: x16 :: x17 :: eClr x18 :: some (vi (z + n)) :: r) st σ Q; rw [eClr_id hp]; exact k)
theorem ok_ist20 (i : Nat) {r : List (Option eV)} {x0 x1 x2 x3 x4 x5 x6 x7 x8 x9 x10 x11 x12 x13 x14 x15 x16 x17 x18 x19 y : Option eV} {z : Int} (hd : nth (eTab M) i = some (pc, .istore 20, pc')) (hn : pc + 2 = pc') (hp : eNl x19 = true) (k : Ok sh M pc' (x0 :: x1 :: x2 :: x3 :: x4 :: x5 :: x6 :: x7 :: x8 :: x9 :: x10 :: x11 :: x12 :: x13 :: x14 :: x15 :: x16 :: x17 :: x18 :: x19 :: some (vi z) :: r) st σ Q) : Ok sh M pc (x0 :: x1 :: x2 :: x3 :: x4 :: x5 :: x6 :: x7 :: x8 :: x9 :: x10 :: x11 :: x12 :: x13 :: x14 :: x15 :: x16 :: x17 :: x18 :: x19 :: y :: r) (vi z :: st) σ Q :=
  og_len fun h => og_istore (k := 20) i hd hn (by rw [← h]; simp) (by show Ok sh M pc' (x0 :: x1 :: x2 :: x3 :: x4 :: x5 :: x6 :: x7 :: x8 :: x9 :: x10 :: x11 :: x12 :: x13 :: x14 :: x15 :: x16 :: x17 :: x18 :: eClr x19 :: some (vi z) :: r) st σ Q; rw [eClr_id hp]; exact k)
theorem ok_lst21 (i : Nat) {r : List (Option eV)} {y2 : Option eV} {x0 x1 x2 x3 x4 x5 x6 x7 x8 x9 x10 x11 x12 x13 x14 x15 x16 x17 x18 x19 x20 y : Option eV} {z : Int} (hd : nth (eTab M) i = some (pc, .lstore 21, pc')) (hn : pc + 2 = pc') (hp : eNl x20 = true) (k : Ok sh M pc' (x0 :: x1 :: x2 :: x3 :: x4 :: x5 :: x6 :: x7 :: x8 :: x9 :: x10 :: x11 :: x12 :: x13 :: x14 :: x15 :: x16 :: x17 :: x18 :: x19 :: x20 :: some (vl z) :: none :: r) st σ Q) : Ok sh M pc (x0 :: x1 :: x2 :: x3 :: x4 :: x5 :: x6 :: x7 :: x8 :: x9 :: x10 :: x11 :: x12 :: x13 :: x14 :: x15 :: x16 :: x17 :: x18 :: x19 :: x20 :: y :: y2 :: r) (vl z :: st) σ Q :=
  og_len fun h => og_lstore (k := 21) i hd hn (by rw [← h]; simp) (by show Ok sh M pc' (x0 :: x1 :: x2 :: x3 :: x4 :: x5 :: x6 :: x7 :: x8 :: x9 :: x10 :: x11 :: x12 :: x13 :: x14 :: x15 :: x16 :: x17 :: x18 :: x19 :: eClr x20 :: some (vl z) :: none :: r) st σ Q; rw [eClr_id hp]; exact k)
theorem ok_lst23 (i : Nat) {r : List (Option eV)} {y2 : Option eV} {x0 x1 x2 x3 x4 x5 x6 x7 x8 x9 x10 x11 x12 x13 x14 x15 x16 x17 x18 x19 x20 x21 x22 y : Option eV} {z : Int} (hd : nth (eTab M) i = some (pc, .lstore 23, pc')) (hn : pc + 2 = pc') (hp : eNl x22 = true) (k : Ok sh M pc' (x0 :: x1 :: x2 :: x3 :: x4 :: x5 :: x6 :: x7 :: x8 :: x9 :: x10 :: x11 :: x12 :: x13 :: x14 :: x15 :: x16 :: x17 :: x18 :: x19 :: x20 :: x21 :: x22 :: some (vl z) :: none :: r) st σ Q) : Ok sh M pc (x0 :: x1 :: x2 :: x3 :: x4 :: x5 :: x6 :: x7 :: x8 :: x9 :: x10 :: x11 :: x12 :: x13 :: x14 :: x15 :: x16 :: x17 :: x18 :: x19 :: x20 :: x21 :: x22 :: y :: y2 :: r) (vl z :: st) σ Q :=
  og_len fun h => og_lstore (k := 23) i hd hn (by rw [← h]; simp) (by show Ok sh M pc' (x0 :: x1 :: x2 :: x3 :: x4 :: x5 :: x6 :: x7 :: x8 :: x9 :: x10 :: x11 :: x12 :: x13 :: x14 :: x15 :: x16 :: x17 :: x18 :: x19 :: x20 :: x21 :: eClr x22 :: some (vl z) :: none :: r) st σ Q; rw [eClr_id hp]; exact k)
end E7
/-! what holds of the class between calls -/
def iTs (σ : eS) : Prop := ∀ t, tA t → iT σ t ∧ mT σ t
def iCh (σ : eS) : Prop := ∀ k : Int, 0 ≤ k → k < 8 → 0 ≤ σ 17 k ∧ σ 17 k ≤ 7
def iMi (σ : eS) : Prop := (0 ≤ σ 22 5 ∧ σ 22 5 ≤ 64 ∧ 0 ≤ σ 22 4 ∧ σ 22 4 ≤ 8 ∧ 0 ≤ σ 22 6 ∧ σ 22 6 ≤ 799999992 ∧ σ 22 3 ≤ 8) ∧ (∀ k : Int, 0 ≤ k → k < σ 22 5 → 0 ≤ σ 23 k) ∧ (∀ k : Int, 0 ≤ k → k < 512 → 0 ≤ σ 24 k ∧ σ 24 k ≤ 7) ∧ sm (fun k => σ 23 k) (σ 22 5).toNat ≤ σ 22 6
def iSh (σ : eS) : Prop := 0 ≤ σ 46 1 ∧ σ 46 1 ≤ 1216
def iSu (σ : eS) : Prop := ∀ k : Int, 0 ≤ k → k < 64 → 0 ≤ σ 15 k
/-- the searches: no mark is ahead of the counter -/
def iSe (σ : eS) : Prop := 0 ≤ σ 16 3 ∧ ∀ T : Int, 0 ≤ T → T < 256 → σ 19 T ≤ σ 16 3
theorem iSe_cg {σ τ : eS} (h : iSe σ) (e : τ 16 3 = σ 16 3) (e2 : ∀ k, τ 19 k = σ 19 k) : iSe τ := by
  unfold iSe
  simp only [e, e2]
  exact h
/-- at most N searches were made -/
def mkS (N : Int) (σ σ' : eS) : Prop := iSe σ → σ 16 3 + N ≤ 2147483647 → iSe σ' ∧ σ 16 3 ≤ σ' 16 3 ∧ σ' 16 3 ≤ σ 16 3 + N
theorem mkS_cg {N : Int} {σ τ : eS} (hN : 0 ≤ N) (e : τ 16 3 = σ 16 3) (e2 : ∀ k, τ 19 k = σ 19 k) : mkS N σ τ := fun h _ => ⟨iSe_cg h e e2, by omega, by omega⟩
theorem mkS_fr {N : Int} {P : Nat → Int → Prop} {σ τ : eS} (hN : 0 ≤ N) (f : fr P σ τ) (h1 : ¬ P 16 3) (h2 : ∀ k, ¬ P 19 k) : mkS N σ τ := mkS_cg hN (f _ _ h1) (fun k => f _ _ (h2 k))
theorem mkS.tr {a b : Int} {σ τ υ : eS} (h : mkS a σ τ) (g : mkS b τ υ) (ha : 0 ≤ a) (hb : 0 ≤ b) : mkS (a + b) σ υ := fun i l => by
  obtain ⟨i1, l1, l2⟩ := h i (by omega)
  obtain ⟨j1, k1, k2⟩ := g i1 (by omega)
  exact ⟨j1, by omega, by omega⟩
theorem mkS.mono {a b : Int} {σ τ : eS} (h : mkS a σ τ) (hab : a ≤ b) : mkS b σ τ := fun i l => by
  obtain ⟨i1, l1, l2⟩ := h i (by omega)
  exact ⟨i1, l1, by omega⟩
def IA (σ : eS) : Prop := tL σ ∧ iTs σ ∧ iCh σ ∧ iMi σ ∧ iSh σ ∧ iSu σ
/-- the tape stays -/
def tpS (σ σ' : eS) : Prop := (∀ k, σ' 10 k = σ 10 k) ∧ ∀ k, σ' 11 k = σ 11 k
/-- the tables stay -/
def tbS (σ σ' : eS) : Prop := ∀ (c : Nat) (k : Int), 2 ≤ c → c ≤ 9 → (c ≤ 5 → k ≤ 3 ∨ 4 ≤ k) → σ' c k = σ c k
/-- but for what was found and kept: both, what was sought, what was rounded -/
def tbV (σ σ' : eS) : Prop := ∀ (c : Nat) (k : Int), 2 ≤ c → c ≤ 9 → (c ≤ 5 → k ≤ 3) → σ' c k = σ c k
def tbW (σ σ' : eS) : Prop := ∀ (c : Nat) (k : Int), 2 ≤ c → c ≤ 9 → (c ≤ 5 → k ≤ 5) → σ' c k = σ c k
def tbR (σ σ' : eS) : Prop := ∀ (c : Nat) (k : Int), 2 ≤ c → c ≤ 9 → (c ≤ 5 → k ≤ 3 ∨ 6 ≤ k) → σ' c k = σ c k
theorem tbS.v {σ σ' : eS} (h : tbS σ σ') : tbV σ σ' := fun c k a b _ => h c k a b (fun _ => by omega)
theorem tbW.v {σ σ' : eS} (h : tbW σ σ') : tbV σ σ' := fun c k a b d => h c k a b (fun q => by have := d q; omega)
theorem tbR.v {σ σ' : eS} (h : tbR σ σ') : tbV σ σ' := fun c k a b d => h c k a b (fun q => Or.inl (d q))
/-- the parts kept, what was shown, and few searches -/
def miS (σ σ' : eS) : Prop := ∀ (c : Nat) (k : Int), 22 ≤ c → c ≤ 24 → σ' c k = σ c k
def swS (σ σ' : eS) : Prop := ∀ (c : Nat) (k : Int), 46 ≤ c → c ≤ 47 → σ' c k = σ c k
def otS (σ σ' : eS) : Prop := miS σ σ' ∧ swS σ σ' ∧ mkS 20000 σ σ'
theorem otS_rf (σ : eS) : otS σ σ := ⟨fun _ _ _ _ => rfl, fun _ _ _ _ => rfl, mkS_cg (by decide) rfl (fun _ => rfl)⟩
theorem otS_fr {P : Nat → Int → Prop} {σ τ : eS} (f : fr P σ τ) (h : ∀ c k, 22 ≤ c ∧ c ≤ 24 ∨ 46 ≤ c ∧ c ≤ 47 ∨ c = 16 ∧ k = 3 ∨ c = 19 → ¬ P c k) : otS σ τ := ⟨fun c k a b => f c k (h c k (by omega)), fun c k a b => f c k (h c k (by omega)), mkS_fr (by decide) f (h _ _ (by omega)) (fun k => h _ _ (by omega))⟩
def QA0 (σ σ' : eS) : Prop := IA σ' ∧ tpS σ σ' ∧ otS σ σ'
def QA (σ σ' : eS) : Prop := IA σ' ∧ tpS σ σ' ∧ tbS σ σ' ∧ otS σ σ'
def QAk (σ σ' : eS) : Prop := IA σ' ∧ tpS σ σ' ∧ tbW σ σ' ∧ otS σ σ'
def QAr (σ σ' : eS) : Prop := IA σ' ∧ tpS σ σ' ∧ tbR σ σ' ∧ otS σ σ'
theorem QA.k {σ σ' : eS} (h : QA σ σ') : QAk σ σ' := ⟨h.1, h.2.1, fun c k a b _ => h.2.2.1 c k a b (fun _ => by omega), h.2.2.2⟩
theorem QA.r {σ σ' : eS} (h : QA σ σ') : QAr σ σ' := ⟨h.1, h.2.1, fun c k a b _ => h.2.2.1 c k a b (fun _ => by omega), h.2.2.2⟩
theorem QA.q0 {σ σ' : eS} (h : QA σ σ') : QA0 σ σ' := ⟨h.1, h.2.1, h.2.2.2⟩
theorem iTs_cg {σ τ : eS} (h : iTs σ) (e : ∀ c k, 2 ≤ c → c ≤ 9 → (c ≤ 5 → k ≤ 3) → τ c k = σ c k) : iTs τ := fun t ht => by
  have n := tA_10 ht
  obtain ⟨h1, h2⟩ := h t ht
  exact ⟨(iT_cg h1 (e _ _ (by omega) (by omega) (by omega)) (e _ _ (by omega) (by omega) (by omega)) (fun k => e _ _ (by omega) (by omega) (by omega))).1, mT_cg h2 (e _ _ (by omega) (by omega) (by omega)) (e _ _ (by omega) (by omega) (by omega)) (fun k => e _ _ (by omega) (by omega) (by omega))⟩
theorem iTs_set {σ τ : eS} {t : Nat} (ht : tA t) (h : iTs σ) (e : ∀ c k, 2 ≤ c → c ≤ 9 → c ≠ t → c ≠ t + 4 → τ c k = σ c k) (h1 : iT τ t) (h2 : mT τ t) : iTs τ := fun u hu => by
  by_cases q : u = t
  · subst q; exact ⟨h1, h2⟩
  · have n := tA_10 ht
    have m := tA_10 hu
    obtain ⟨g1, g2⟩ := h u hu
    exact ⟨(iT_cg g1 (e _ _ (by omega) (by omega) (by omega) (by omega)) (e _ _ (by omega) (by omega) (by omega) (by omega)) (fun k => e _ _ (by omega) (by omega) (by omega) (by omega))).1, mT_cg g2 (e _ _ (by omega) (by omega) (by omega) (by omega)) (e _ _ (by omega) (by omega) (by omega) (by omega)) (fun k => e _ _ (by omega) (by omega) (by omega) (by omega))⟩
theorem iCh_cg {σ τ : eS} (h : iCh σ) (e : ∀ k, τ 17 k = σ 17 k) : iCh τ := fun k a b => by rw [e]; exact h k a b
theorem iMi_cg {σ τ : eS} (h : iMi σ) (e : ∀ c k, 22 ≤ c → c ≤ 24 → τ c k = σ c k) : iMi τ := by
  have e2 : ∀ k, τ 22 k = σ 22 k := fun k => e _ _ (by omega) (by omega)
  have e3 : τ 23 = σ 23 := by funext k; exact e _ _ (by omega) (by omega)
  have e4 : τ 24 = σ 24 := by funext k; exact e _ _ (by omega) (by omega)
  unfold iMi
  simp only [e2, e3, e4]
  exact h
theorem iSh_cg {σ τ : eS} (h : iSh σ) (e : ∀ k, τ 46 k = σ 46 k) : iSh τ := by
  unfold iSh
  rw [e]
  exact h
theorem iSu_cg {σ τ : eS} (h : iSu σ) (e : ∀ k, τ 15 k = σ 15 k) : iSu τ := fun k a b => by rw [e]; exact h k a b
theorem QA_rf {σ : eS} (h : IA σ) : QA σ σ := ⟨h, ⟨fun _ => rfl, fun _ => rfl⟩, fun _ _ _ _ _ => rfl, otS_rf _⟩
theorem s_Ev_fault {σ : eS} {w : Int} : MtI shA M_Ev_fault [vr 0, vi w] σ (fun σ' z => σ' = σ ∧ z = if w = 0 then σ 10 4 else if w = 1 then σ 10 5 else -1) := by
  refine Mt.of okM_Ev_fault (Nat.le_of_ble_eq_true rfl) (fun hk hg => ?_)
  refine ok_iload_n 0 rfl rfl rfl (ok_if_ne 1 12 rfl rfl rfl (fun h1 => ?_) (fun h1 => ?_))
  · refine ok_iload_n 6 rfl rfl rfl (ok_iconst 7 rfl rfl (by decide) (ok_icmp_ne 8 27 rfl rfl rfl (fun h14 => ?_) (fun h14 => ?_)))
    · refine ok_iconst 13 rfl rfl (by decide) (ok_iret 14 rfl rfl rfl ?_)
      refine ⟨_, rfl, rfl, ?_⟩
      first | rw [if_pos (by omega)] | rw [if_neg (by omega), if_pos (by omega)] | rw [if_neg (by omega), if_neg (by omega)]
    · refine ok_aload_n 9 rfl rfl rfl (ok_getR 10 rfl rfl fl_X11_18 rfl rfl (ok_getI 11 rfl rfl fl_X11_100 rfl rfl (Or.inl rfl) (ok_goto 12 28 rfl rfl rfl (ok_iret 14 rfl rfl rfl ?_))))
      refine ⟨_, rfl, rfl, ?_⟩
      first | rw [if_pos (by omega)] | rw [if_neg (by omega), if_pos (by omega)] | rw [if_neg (by omega), if_neg (by omega)]
  · refine ok_aload_n 2 rfl rfl rfl (ok_getR 3 rfl rfl fl_X11_18 rfl rfl (ok_getI 4 rfl rfl fl_X11_97 rfl rfl (Or.inl rfl) (ok_iret 5 rfl rfl rfl ?_)))
    refine ⟨_, rfl, rfl, ?_⟩
    first | rw [if_pos (by omega)] | rw [if_neg (by omega), if_pos (by omega)] | rw [if_neg (by omega), if_neg (by omega)]
def celA (σ : eS) (s i j : Int) : Prop := 0 ≤ s ∧ s < 4 ∧ 0 ≤ i ∧ i < σ (s.toNat + 2) 1 ∧ 0 ≤ j ∧ j < σ (s.toNat + 2) 1
theorem s_Ev_cell {σ : eS} {s i j : Int} (h : IA σ) : MtI shA M_Ev_cell [vr 0, vi s, vi i, vi j] σ (fun σ' z => σ' = σ ∧ ((celA σ s i j ∧ z = cT σ (s.toNat + 2) i j) ∨ (¬ celA σ s i j ∧ z = -1))) := by
  refine Mt.of okM_Ev_cell (Nat.le_of_ble_eq_true rfl) (fun hk hg => ?_)
  refine ok_aload_n 0 rfl rfl rfl (ok_iload_n 1 rfl rfl rfl (ok_callVR (M' := M_Ev_slotAt) (as := [_]) 2 rfl rfl ml_X11_86 (s_Ev_slotAt) rfl rfl (Nat.le_of_ble_eq_true rfl) ⟨Nat.le_of_ble_eq_true rfl, Nat.le_of_ble_eq_true rfl⟩ rfl (Nat.le_of_ble_eq_true rfl) (fun σ' z hz => ?_)))
  obtain ⟨hs_, hz⟩ := hz
  rw [hs_]; clear hs_ σ'
  rcases hz with ⟨q, q2⟩ | ⟨q1, q2, q⟩
  · subst q
    refine ok_ast4 3 rfl rfl rfl (ok_aload 4 rfl rfl rfl (ok_ifnullN 5 30 rfl rfl rfl (ok_iconst 14 rfl rfl (by decide) (ok_iret 15 rfl rfl rfl ?_))))
    exact ⟨_, rfl, rfl, Or.inr ⟨fun w => q2 ⟨w.1, w.2.1⟩, rfl⟩⟩
  · subst q
    have ht := sl_tA ⟨q1, q2⟩
    have hT := (h.2.1 _ ht).1
    have hn := hT.2.1
    refine ok_ast4 3 rfl rfl rfl (ok_aload 4 rfl rfl rfl (ok_ifnull 5 rfl rfl (ok_aload 6 rfl rfl rfl (ok_iload_n 7 rfl rfl rfl (ok_callVI (M' := M_Ta_has) (as := [_]) 8 rfl rfl ml_X11_129 (s_Ta_has ht) (sT ht) rfl (Nat.le_of_ble_eq_true rfl) ⟨Nat.le_of_ble_eq_true rfl, Nat.le_of_ble_eq_true rfl⟩ rfl (Nat.le_of_ble_eq_true rfl) (fun σ' z1 x1 => ?_))))))
    obtain ⟨hs_, x1⟩ := x1
    rw [hs_]; clear hs_ σ'
    refine ok_if_eq 9 30 rfl rfl rfl (fun h18 => ?_) (fun h18 => ?_)
    · refine ok_iconst 14 rfl rfl (by decide) (ok_iret 15 rfl rfl rfl ?_)
      first | exact ⟨_, rfl, rfl, Or.inl ⟨⟨q1, q2, by omega, by omega, by omega, by omega⟩, rfl⟩⟩ | exact ⟨_, rfl, rfl, Or.inr ⟨fun w => by obtain ⟨w1, w2, w3, w4, w5, w6⟩ := w; omega, rfl⟩⟩
    · refine ok_aload 10 rfl rfl rfl (ok_iload_n 11 rfl rfl rfl (ok_callVI (M' := M_Ta_has) (as := [_]) 12 rfl rfl ml_X11_129 (s_Ta_has ht) (sT ht) rfl (Nat.le_of_ble_eq_true rfl) ⟨Nat.le_of_ble_eq_true rfl, Nat.le_of_ble_eq_true rfl⟩ rfl (Nat.le_of_ble_eq_true rfl) (fun σ' z2 x2 => ?_)))
      obtain ⟨hs_, x2⟩ := x2
      rw [hs_]; clear hs_ σ'
      refine ok_if_ne 13 32 rfl rfl rfl (fun h27 => ?_) (fun h27 => ?_)
      · refine ok_aload 16 rfl rfl rfl (ok_getR 17 rfl rfl fl_X11_133 (sT ht) rfl (ok_iload_n 18 rfl rfl rfl (ok_bipush 19 rfl rfl (by decide) (by decide) (ok_imul 20 rfl rfl (by first | omega | (simp [up_if]; omega) | (simp [up_if] at *; omega)) (ok_iload_n 21 rfl rfl rfl (ok_iadd 22 rfl rfl (by first | omega | (simp [up_if]; omega) | (simp [up_if] at *; omega)) (ok_iald 23 rfl rfl (sC ht) (by first | omega | (simp [up_if]; omega) | (simp [up_if] at *; omega)) (ok_iret 24 rfl rfl rfl ?_))))))))
        first | exact ⟨_, rfl, rfl, Or.inl ⟨⟨q1, q2, by omega, by omega, by omega, by omega⟩, rfl⟩⟩ | exact ⟨_, rfl, rfl, Or.inr ⟨fun w => by obtain ⟨w1, w2, w3, w4, w5, w6⟩ := w; omega, rfl⟩⟩
      · refine ok_iconst 14 rfl rfl (by decide) (ok_iret 15 rfl rfl rfl ?_)
        first | exact ⟨_, rfl, rfl, Or.inl ⟨⟨q1, q2, by omega, by omega, by omega, by omega⟩, rfl⟩⟩ | exact ⟨_, rfl, rfl, Or.inr ⟨fun w => by obtain ⟨w1, w2, w3, w4, w5, w6⟩ := w; omega, rfl⟩⟩
def tabA (σ : eS) (s : Int) : Prop := 0 ≤ s ∧ s < 4 ∧ σ (s.toNat + 2) 1 ≠ 0
theorem s_Ev_uneven {σ : eS} {s : Int} (h : IA σ) : MtI shA M_Ev_uneven [vr 0, vi s] σ (fun σ' z => σ' = σ ∧ ((¬ tabA σ s ∧ z = -1) ∨ (tabA σ s ∧ unev (rowT σ (s.toNat + 2)) (colT σ (s.toNat + 2)) (σ (s.toNat + 2) 1) z))) := by
  refine Mt.of okM_Ev_uneven (Nat.le_of_ble_eq_true rfl) (fun hk hg => ?_)
  refine ok_aload_n 0 rfl rfl rfl (ok_iload_n 1 rfl rfl rfl (ok_callVR (M' := M_Ev_filledSlot) (as := [_]) 2 rfl rfl ml_X11_137 (s_Ev_filledSlot) rfl rfl (Nat.le_of_ble_eq_true rfl) ⟨Nat.le_of_ble_eq_true rfl, Nat.le_of_ble_eq_true rfl⟩ rfl (Nat.le_of_ble_eq_true rfl) (fun σ' z hz => ?_)))
  obtain ⟨hs_, hz⟩ := hz
  rw [hs_]; clear hs_ σ'
  rcases hz with ⟨q, q0⟩ | ⟨q1, q2, q, q3⟩
  · subst q
    refine ok_ast2 3 rfl rfl rfl (ok_aload_n 4 rfl rfl rfl (ok_ifnonnullN 5 rfl rfl (ok_iconst 6 rfl rfl (by decide) (ok_goto 7 18 rfl rfl rfl (ok_iret 10 rfl rfl rfl ?_)))))
    exact ⟨_, rfl, rfl, Or.inl ⟨q0, rfl⟩⟩
  · subst q
    have ht := sl_tA ⟨q1, q2⟩
    have hT := (h.2.1 _ ht).1
    refine ok_ast2 3 rfl rfl rfl (ok_aload_n 4 rfl rfl rfl (ok_ifnonnull 5 14 rfl rfl rfl (ok_aload_n 8 rfl rfl rfl (ok_callVI (M' := M_Ta_firstUneven) (as := []) 9 rfl rfl ml_X11_140 (s_Ta_firstUneven ht hT) (sT ht) rfl (Nat.le_of_ble_eq_true rfl) ⟨Nat.le_of_ble_eq_true rfl, Nat.le_of_ble_eq_true rfl⟩ rfl (Nat.le_of_ble_eq_true rfl) (fun σ' z1 x1 => ?_)))))
    obtain ⟨hs_, x1⟩ := x1
    rw [hs_]; clear hs_ σ'
    refine ok_iret 10 rfl rfl rfl ?_
    exact ⟨_, rfl, rfl, Or.inr ⟨⟨q1, q2, q3⟩, x1⟩⟩
theorem s_Ev_isCell {σ : eS} {x : Int} : MtI shA M_Ev_isCell [vi x] σ (fun σ' z => σ' = σ ∧ ((z = 1 ∧ 0 ≤ x ∧ x ≤ 99999999) ∨ (z = 0 ∧ ¬ (0 ≤ x ∧ x ≤ 99999999)))) := by
  refine Mt.of okM_Ev_isCell (Nat.le_of_ble_eq_true rfl) (fun hk hg => ?_)
  refine ok_iload_n 0 rfl rfl rfl (ok_if_lt 1 15 rfl rfl rfl (fun h1 => ?_) (fun h1 => ?_))
  · refine ok_iconst 7 rfl rfl (by decide) (ok_zret 8 rfl rfl rfl (by first | omega | (simp [up_if]; omega) | (simp [up_if] at *; omega)) ?_)
    exact ⟨_, rfl, rfl, by omega⟩
  · refine ok_iload_n 2 rfl rfl rfl (ok_ldcw 3 (99999999) rfl rfl kc_X11_335 (by decide) (ok_icmp_gt 4 15 rfl rfl rfl (fun h8 => ?_) (fun h8 => ?_)))
    · refine ok_iconst 7 rfl rfl (by decide) (ok_zret 8 rfl rfl rfl (by first | omega | (simp [up_if]; omega) | (simp [up_if] at *; omega)) ?_)
      exact ⟨_, rfl, rfl, by omega⟩
    · refine ok_iconst 5 rfl rfl (by decide) (ok_goto 6 16 rfl rfl rfl (ok_zret 8 rfl rfl rfl (by first | omega | (simp [up_if]; omega) | (simp [up_if] at *; omega)) ?_))
      exact ⟨_, rfl, rfl, by omega⟩
theorem s_Ev_isRule {σ : eS} {x : Int} : MtI shA M_Ev_isRule [vi x] σ (fun σ' z => σ' = σ ∧ ((z = 1 ∧ 0 ≤ x ∧ x ≤ 3) ∨ (z = 0 ∧ ¬ (0 ≤ x ∧ x ≤ 3)))) := by
  refine Mt.of okM_Ev_isRule (Nat.le_of_ble_eq_true rfl) (fun hk hg => ?_)
  refine ok_iload_n 0 rfl rfl rfl (ok_if_lt 1 13 rfl rfl rfl (fun h1 => ?_) (fun h1 => ?_))
  · refine ok_iconst 7 rfl rfl (by decide) (ok_zret 8 rfl rfl rfl (by first | omega | (simp [up_if]; omega) | (simp [up_if] at *; omega)) ?_)
    exact ⟨_, rfl, rfl, by omega⟩
  · refine ok_iload_n 2 rfl rfl rfl (ok_iconst 3 rfl rfl (by decide) (ok_icmp_ge 4 13 rfl rfl rfl (fun h6 => ?_) (fun h6 => ?_)))
    · refine ok_iconst 7 rfl rfl (by decide) (ok_zret 8 rfl rfl rfl (by first | omega | (simp [up_if]; omega) | (simp [up_if] at *; omega)) ?_)
      exact ⟨_, rfl, rfl, by omega⟩
    · refine ok_iconst 5 rfl rfl (by decide) (ok_goto 6 14 rfl rfl rfl (ok_zret 8 rfl rfl rfl (by first | omega | (simp [up_if]; omega) | (simp [up_if] at *; omega)) ?_))
      exact ⟨_, rfl, rfl, by omega⟩
theorem s_Ev_isShare {σ : eS} {x y : Int} : MtI shA M_Ev_isShare [vi x, vi y] σ (fun σ' z => σ' = σ ∧ ((z = 1 ∧ 0 ≤ x ∧ x ≤ 9999 ∧ 1 ≤ y ∧ y ≤ 9999) ∨ (z = 0 ∧ ¬ (0 ≤ x ∧ x ≤ 9999 ∧ 1 ≤ y ∧ y ≤ 9999)))) := by
  refine Mt.of okM_Ev_isShare (Nat.le_of_ble_eq_true rfl) (fun hk hg => ?_)
  refine ok_iload_n 0 rfl rfl rfl (ok_if_lt 1 27 rfl rfl rfl (fun h1 => ?_) (fun h1 => ?_))
  · refine ok_iconst 13 rfl rfl (by decide) (ok_zret 14 rfl rfl rfl (by first | omega | (simp [up_if]; omega) | (simp [up_if] at *; omega)) ?_)
    exact ⟨_, rfl, rfl, by omega⟩
  · refine ok_iload_n 2 rfl rfl rfl (ok_sipush 3 rfl rfl (by decide) (by decide) (ok_icmp_gt 4 27 rfl rfl rfl (fun h8 => ?_) (fun h8 => ?_)))
    · refine ok_iconst 13 rfl rfl (by decide) (ok_zret 14 rfl rfl rfl (by first | omega | (simp [up_if]; omega) | (simp [up_if] at *; omega)) ?_)
      exact ⟨_, rfl, rfl, by omega⟩
    · refine ok_iload_n 5 rfl rfl rfl (ok_iconst 6 rfl rfl (by decide) (ok_icmp_lt 7 27 rfl rfl rfl (fun h13 => ?_) (fun h13 => ?_)))
      · refine ok_iconst 13 rfl rfl (by decide) (ok_zret 14 rfl rfl rfl (by first | omega | (simp [up_if]; omega) | (simp [up_if] at *; omega)) ?_)
        exact ⟨_, rfl, rfl, by omega⟩
      · refine ok_iload_n 8 rfl rfl rfl (ok_sipush 9 rfl rfl (by decide) (by decide) (ok_icmp_gt 10 27 rfl rfl rfl (fun h20 => ?_) (fun h20 => ?_)))
        · refine ok_iconst 13 rfl rfl (by decide) (ok_zret 14 rfl rfl rfl (by first | omega | (simp [up_if]; omega) | (simp [up_if] at *; omega)) ?_)
          exact ⟨_, rfl, rfl, by omega⟩
        · refine ok_iconst 11 rfl rfl (by decide) (ok_goto 12 28 rfl rfl rfl (ok_zret 14 rfl rfl rfl (by first | omega | (simp [up_if]; omega) | (simp [up_if] at *; omega)) ?_))
          exact ⟨_, rfl, rfl, by omega⟩
def likeA (σ : eS) (s r w : Int) : Prop := 0 ≤ s ∧ s < 4 ∧ 0 ≤ r ∧ r < 4 ∧ 0 ≤ w ∧ w < 4 ∧ σ (s.toNat + 2) 1 ≠ 0 ∧ σ (s.toNat + 2) 1 = σ (r.toNat + 2) 1
theorem s_Ev_areLike {σ : eS} {s r w : Int} : MtI shA M_Ev_areLike [vr 0, vi s, vi r, vi w] σ (fun σ' z => σ' = σ ∧ ((z = 0 ∧ ¬ likeA σ s r w) ∨ (z = 1 ∧ likeA σ s r w))) := by
  refine Mt.of okM_Ev_areLike (Nat.le_of_ble_eq_true rfl) (fun hk hg => ?_)
  refine ok_aload_n 0 rfl rfl rfl (ok_iload_n 1 rfl rfl rfl (ok_callVR (M' := M_Ev_filledSlot) (as := [_]) 2 rfl rfl ml_X11_137 (s_Ev_filledSlot) rfl rfl (Nat.le_of_ble_eq_true rfl) ⟨Nat.le_of_ble_eq_true rfl, Nat.le_of_ble_eq_true rfl⟩ rfl (Nat.le_of_ble_eq_true rfl) (fun σ' z1 x1 => ?_)))
  obtain ⟨hs_, x1⟩ := x1
  rw [hs_]; clear hs_ σ'
  refine ok_ast4 3 rfl rfl rfl (ok_aload_n 4 rfl rfl rfl (ok_iload_n 5 rfl rfl rfl (ok_callVR (M' := M_Ev_filledSlot) (as := [_]) 6 rfl rfl ml_X11_137 (s_Ev_filledSlot) rfl rfl (Nat.le_of_ble_eq_true rfl) ⟨Nat.le_of_ble_eq_true rfl, Nat.le_of_ble_eq_true rfl⟩ rfl (Nat.le_of_ble_eq_true rfl) (fun σ' z2 x2 => ?_))))
  obtain ⟨hs_, x2⟩ := x2
  rw [hs_]; clear hs_ σ'
  rcases x1 with ⟨q, q0⟩ | ⟨q1, q2, q, q3⟩
  · subst q
    refine ok_ast5 7 rfl rfl rfl (ok_aload 8 rfl rfl rfl (ok_ifnullN 9 49 rfl rfl rfl (ok_iconst 23 rfl rfl (by decide) (ok_zret 24 rfl rfl rfl (by first | omega | (simp [up_if]; omega) | (simp [up_if] at *; omega)) ?_))))
    exact ⟨_, rfl, rfl, Or.inl ⟨rfl, fun w => q0 ⟨w.1, w.2.1, w.2.2.2.2.2.2.1⟩⟩⟩
  · subst q
    have ht := sl_tA ⟨q1, q2⟩
    rcases x2 with ⟨q, r0⟩ | ⟨r1, r2, q, r3⟩
    · subst q
      refine ok_ast5 7 rfl rfl rfl (ok_aload 8 rfl rfl rfl (ok_ifnull 9 rfl rfl (ok_aload 10 rfl rfl rfl (ok_ifnullN 11 49 rfl rfl rfl (ok_iconst 23 rfl rfl (by decide) (ok_zret 24 rfl rfl rfl (by first | omega | (simp [up_if]; omega) | (simp [up_if] at *; omega)) ?_))))))
      exact ⟨_, rfl, rfl, Or.inl ⟨rfl, fun w => r0 ⟨w.2.2.1, w.2.2.2.1, by show σ (r.toNat + 2) 1 ≠ 0; rw [← w.2.2.2.2.2.2.2]; exact w.2.2.2.2.2.2.1⟩⟩⟩
    · subst q
      have hu := sl_tA ⟨r1, r2⟩
      refine ok_ast5 7 rfl rfl rfl (ok_aload 8 rfl rfl rfl (ok_ifnull 9 rfl rfl (ok_aload 10 rfl rfl rfl (ok_ifnull 11 rfl rfl (ok_aload 12 rfl rfl rfl (ok_getI 13 rfl rfl fl_X11_103 (sT ht) rfl (Or.inl rfl) (ok_aload 14 rfl rfl rfl (ok_getI 15 rfl rfl fl_X11_103 (sT hu) rfl (Or.inl rfl) (ok_icmp_ne 16 49 rfl rfl rfl (fun h34 => ?_) (fun h34 => ?_))))))))))
      · refine ok_iconst 23 rfl rfl (by decide) (ok_zret 24 rfl rfl rfl (by first | omega | (simp [up_if]; omega) | (simp [up_if] at *; omega)) ?_)
        exact ⟨_, rfl, rfl, Or.inl ⟨rfl, fun w => h34 w.2.2.2.2.2.2.2⟩⟩
      · refine ok_aload_n 17 rfl rfl rfl (ok_iload_n 18 rfl rfl rfl (ok_callVR (M' := M_Ev_slotAt) (as := [_]) 19 rfl rfl ml_X11_86 (s_Ev_slotAt) rfl rfl (Nat.le_of_ble_eq_true rfl) ⟨Nat.le_of_ble_eq_true rfl, Nat.le_of_ble_eq_true rfl⟩ rfl (Nat.le_of_ble_eq_true rfl) (fun σ' z3 x3 => ?_)))
        obtain ⟨hs_, x3⟩ := x3
        rw [hs_]; clear hs_ σ'
        rcases x3 with ⟨q, q2⟩ | ⟨w1, w2, q⟩
        · subst q
          refine ok_ifnullN 20 49 rfl rfl rfl (ok_iconst 23 rfl rfl (by decide) (ok_zret 24 rfl rfl rfl (by first | omega | (simp [up_if]; omega) | (simp [up_if] at *; omega)) ?_))
          exact ⟨_, rfl, rfl, Or.inl ⟨rfl, fun w => q2 ⟨w.2.2.2.2.1, w.2.2.2.2.2.1⟩⟩⟩
        · subst q
          refine ok_ifnull 20 rfl rfl (ok_iconst 21 rfl rfl (by decide) (ok_goto 22 50 rfl rfl rfl (ok_zret 24 rfl rfl rfl (by first | omega | (simp [up_if]; omega) | (simp [up_if] at *; omega)) ?_)))
          exact ⟨_, rfl, rfl, Or.inr ⟨rfl, q1, q2, r1, r2, w1, w2, q3, h34⟩⟩
end
section
theorem mul_bd2 {a b A B : Int} (h1 : 0 ≤ a ∧ a ≤ A) (h2 : 0 ≤ b ∧ b ≤ B) : 0 ≤ a * b ∧ a * b ≤ A * B :=
  ⟨Int.mul_nonneg h1.1 h2.1, Int.mul_le_mul h1.2 h2.2 h2.1 (by omega)⟩
theorem up_to {P : Int → Prop} {j : Int} (h : ∀ k, 0 ≤ k → k < j → P k) (hj : P j) : ∀ k, 0 ≤ k → k < j + 1 → P k := fun k a b => by
  rcases (by omega : k < j ∨ k = j) with q | q
  · exact h k a q
  · rw [q]; exact hj
def cS (σ : eS) (g n : Int) : Prop := ∀ i j, 0 ≤ i → i < n → 0 ≤ j → j < n → σ 15 (i * 8 + j) / g ≤ 99999999
abbrev rgBr (t : Nat) : Nat → Int → Prop := fun c _ => c = t ∨ c = t + 4
theorem up_su {σ : eS} {j z : Int} (h : iSu σ) (hz : 0 ≤ z) : iSu (up σ 15 j z) := fun k a b => by
  rw [up_if]
  by_cases q : k = j
  · rw [if_pos ⟨rfl, q⟩]; exact hz
  · rw [if_neg (fun y => q y.2)]; exact h k a b
abbrev rgSu : Nat → Int → Prop := fun c _ => c = 15
end
section
theorem QA_mk {σ τ : eS} {v : Nat} {z : Int} (h : IA σ) (hv : tA v) (q : fr (fun c _ => c = 15 ∨ c = v ∨ c = v + 4) σ τ ∧ iT τ v ∧ mT τ v ∧ iSu τ ∧ (z = 0 ∨ z = 1)) : QA0 σ τ := by
  have n := tA_10 hv
  have n11 : v ≤ 5 := by unfold tA at hv; omega
  have e3 := q.1 10 3 (by omega)
  refine ⟨⟨?_, iTs_set hv h.2.1 (fun c k a b d1 d2 => q.1 c k (by omega)) q.2.1 q.2.2.1, iCh_cg h.2.2.1 (fun k => q.1 _ k (by omega)), iMi_cg h.2.2.2.1 (fun c k a b => q.1 c k (by omega)), iSh_cg h.2.2.2.2.1 (fun k => q.1 _ k (by omega)), q.2.2.2.1⟩, ⟨fun k => q.1 10 k (by omega), fun k => q.1 11 k (by omega)⟩, otS_fr q.1 (fun c k w => by omega)⟩
  unfold tL
  rw [e3]
  exact h.1
/-! choices -/
theorem lpO5 {α β γ δ ε : Type} {sh : eSh} {M : eM} {pc : Nat} {Q : eS → Option eV → Prop} (L : α → β → γ → δ → ε → List (Option eV)) (S : α → β → γ → δ → ε → eS) (I : α → β → γ → δ → ε → Prop) (μ : α → β → γ → δ → ε → Nat) (hs : ∀ a b c d e, I a b c d e → (∀ a' b' c' d' e', I a' b' c' d' e' → μ a' b' c' d' e' < μ a b c d e → Ok sh M pc (L a' b' c' d' e') [] (S a' b' c' d' e') Q) → Ok sh M pc (L a b c d e) [] (S a b c d e) Q) (a : α) (b : β) (c : γ) (d : δ) (e : ε) (ha : I a b c d e) : Ok sh M pc (L a b c d e) [] (S a b c d e) Q :=
  lp (fun q : α × β × γ × δ × ε => Ok sh M pc (L q.1 q.2.1 q.2.2.1 q.2.2.2.1 q.2.2.2.2) [] (S q.1 q.2.1 q.2.2.1 q.2.2.2.1 q.2.2.2.2) Q) (fun q => I q.1 q.2.1 q.2.2.1 q.2.2.2.1 q.2.2.2.2) (fun q => μ q.1 q.2.1 q.2.2.1 q.2.2.2.1 q.2.2.2.2) (fun q hq ih => hs q.1 q.2.1 q.2.2.1 q.2.2.2.1 q.2.2.2.2 hq (fun a' b' c' d' e' h1 h2 => ih (a', b', c', d', e') h1 h2)) (a, b, c, d, e) ha
theorem bit_or8 : ∀ s : Fin 256, ∀ j : Fin 8, 0 ≤ ior (s.val : Int) (ishl 1 (j.val : Int)) ∧ ior (s.val : Int) (ishl 1 (j.val : Int)) < 256 := by decide +kernel
theorem or8 {s j : Int} (h1 : 0 ≤ s ∧ s < 256) (h2 : 0 ≤ j ∧ j < 8) : 0 ≤ ior s (ishl 1 j) ∧ ior s (ishl 1 j) < 256 := fin2 (P := fun s j => 0 ≤ ior s (ishl 1 j) ∧ ior s (ishl 1 j) < 256) bit_or8 h1.1 h1.2 h2.1 h2.2
theorem bit_xor8 : ∀ s : Fin 256, ∀ j : Fin 8, 0 ≤ ixor (s.val : Int) (ishl 1 (j.val : Int)) ∧ ixor (s.val : Int) (ishl 1 (j.val : Int)) < 256 := by decide +kernel
theorem xor8 {s j : Int} (h1 : 0 ≤ s ∧ s < 256) (h2 : 0 ≤ j ∧ j < 8) : 0 ≤ ixor s (ishl 1 j) ∧ ixor s (ishl 1 j) < 256 := fin2 (P := fun s j => 0 ≤ ixor s (ishl 1 j) ∧ ixor s (ishl 1 j) < 256) bit_xor8 h1.1 h1.2 h2.1 h2.2
theorem bit_pc1 : ∀ s : Fin 256, (s.val : Int) ≠ 0 → 1 ≤ pc (s.val : Int) := by decide +kernel
theorem pc1 {s : Int} (h : 0 ≤ s ∧ s < 256) (h0 : s ≠ 0) : 1 ≤ pc s := fin1 (P := fun s => s ≠ 0 → 1 ≤ pc s) bit_pc1 h.1 h.2 h0
theorem s_Ch_nextColumn {σ : eS} {o u f n : Int} (hu : 0 ≤ u ∧ u < 256) (hf : 0 ≤ f) (hn : 0 ≤ n ∧ n ≤ 8) : MtI shA M_Ch_nextColumn [vr 16, vi o, vi u, vi f, vi n] σ (fun σ' z => σ' = σ ∧ 0 ≤ z) := by
  refine Mt.of okM_Ch_nextColumn (Nat.le_of_ble_eq_true rfl) (fun hk hg => ?_)
  refine ok_iload_n 0 rfl rfl rfl (ok_ist5 1 rfl rfl rfl ?_)
  refine lpO (fun j : Int => [some (vr 16), some (vi o), some (vi u), some (vi f), some (vi n), some (vi j)]) (fun _ => σ) (fun j => 0 ≤ j) (fun j => (8 - j).toNat) ?_ f hf
  rintro j j1 ih
  refine ok_iload 2 rfl rfl rfl (ok_iload 3 rfl rfl rfl (ok_icmp_ge 4 46 rfl rfl rfl (fun h7 => ?_) (fun h7 => ?_)))
  · refine ok_iload 26 rfl rfl rfl (ok_iret 27 rfl rfl rfl ?_)
    exact ⟨_, rfl, rfl, by omega⟩
  · have b := or8 hu (j := j) ⟨by omega, by omega⟩
    refine ok_iload_n 5 rfl rfl rfl (ok_iload 6 rfl rfl rfl (ok_ishr 7 rfl rfl (ok_iconst 8 rfl rfl (by decide) (ok_iand 9 rfl rfl (ok_if_eq 10 40 rfl rfl rfl (fun h16 => ?_) (fun h16 => ?_))))))
    · refine ok_inc5 24 rfl rfl rfl (by first | omega | (simp [up_if]; omega) | (simp [up_if] at *; omega)) (ok_goto 25 3 rfl rfl rfl ?_)
      exact ih (j + 1) (by omega) (by omega)
    · refine ok_aload_n 11 rfl rfl rfl (ok_getR 12 rfl rfl fl_X0_19 rfl rfl (ok_iload_n 13 rfl rfl rfl (ok_iconst 14 rfl rfl (by decide) (ok_iload 15 rfl rfl rfl (ok_ishl 16 rfl rfl (ok_ior 17 rfl rfl (ok_iald 18 rfl rfl rfl (by first | omega | (simp [up_if]; omega) | (simp [up_if] at *; omega)) (ok_aload_n 19 rfl rfl rfl (ok_getI 20 rfl rfl fl_X0_22 rfl rfl (Or.inl rfl) (ok_icmp_eq 21 40 rfl rfl rfl (fun h34 => ?_) (fun h34 => ?_)))))))))))
      · refine ok_inc5 24 rfl rfl rfl (by first | omega | (simp [up_if]; omega) | (simp [up_if] at *; omega)) (ok_goto 25 3 rfl rfl rfl ?_)
        exact ih (j + 1) (by omega) (by omega)
      · refine ok_iload 22 rfl rfl rfl (ok_iret 23 rfl rfl rfl ?_)
        exact ⟨_, rfl, rfl, by omega⟩
abbrev rgCh : Nat → Int → Prop := fun c _ => c = 16 ∨ c = 17 ∨ c = 18 ∨ c = 19
theorem up_ch {σ : eS} {j z : Int} (h : iCh σ) (hz : 0 ≤ z ∧ z ≤ 7) : iCh (up σ 17 j z) := fun k a b => by
  rw [up_if]
  by_cases q : k = j
  · rw [if_pos ⟨rfl, q⟩]; exact hz
  · rw [if_neg (fun y => q y.2)]; exact h k a b
def mkI (σ ρ : eS) : Prop := ρ 16 3 = wr (σ 16 3 + 1) ∧ ∀ k, ρ 19 k = σ 19 k ∨ ρ 19 k = wr (σ 16 3 + 1)
theorem mkI.s {σ ρ : eS} (h : mkI σ ρ) : mkS 1 σ ρ := fun i l => by
  have e : wr (σ 16 3 + 1) = σ 16 3 + 1 := wr_id ⟨by have := i.1; omega, by omega⟩
  obtain ⟨h1, h2⟩ := h
  rw [e] at h1
  refine ⟨⟨by have := i.1; omega, fun T a b => ?_⟩, by omega, by omega⟩
  have := i.2 T a b
  rcases h2 T with q | q
  · omega
  · rw [e] at q; omega
theorem mkI.u17 {σ ρ : eS} {a b : Int} (h : mkI σ ρ) : mkI σ (up ρ 17 a b) := ⟨by rw [up_ne _ _ _ _ (by decide)]; exact h.1, fun k => by rw [up_ne _ _ _ _ (by decide)]; exact h.2 k⟩
theorem mkI.u19 {σ ρ : eS} {a : Int} (h : mkI σ ρ) : mkI σ (up ρ 19 a (ρ 16 3)) := ⟨by rw [up_ne _ _ _ _ (by decide)]; exact h.1, fun k => by
  rw [up_if]
  by_cases q : k = a
  · rw [if_pos ⟨rfl, q⟩]; exact Or.inr h.1
  · rw [if_neg (fun y => q y.2)]; exact h.2 k⟩
theorem s_Ch_findFirst {σ : eS} {J n : Int} (hC : iCh σ) (hn : 0 ≤ n ∧ n ≤ 8) : MtI shA M_Ch_findFirst [vr 16, vl J, vi n] σ (fun σ' z => fr rgCh σ σ' ∧ iCh σ' ∧ (z = 0 ∨ z = 1) ∧ mkS 1 σ σ') := by
  refine Mt.of okM_Ch_findFirst (Nat.le_of_ble_eq_true rfl) (fun hk hg => ?_)
  refine ok_aload_n 0 rfl rfl rfl (ok_dup 1 rfl rfl rfl (ok_getI 2 rfl rfl fl_X0_22 rfl rfl (Or.inl rfl) (ok_iconst 3 rfl rfl (by decide) (ok_iaddW 4 rfl rfl (ok_putI 5 rfl rfl fl_X0_22 rfl rfl rfl rfl (ok_iconst 6 rfl rfl (by decide) (ok_ist4 7 rfl rfl rfl (ok_iconst 8 rfl rfl (by decide) (ok_ist5 9 rfl rfl rfl (ok_iconst 10 rfl rfl (by decide) (ok_ist6 11 rfl rfl rfl (ok_iconst 12 rfl rfl (by decide) (ok_ist7 13 rfl rfl rfl ?_)))))))))))))
  refine lpO5 (fun (u r w k : Int) (_ : eS) => [some (vr 16), some (vl J), none, some (vi n), some (vi u), some (vi r), some (vi w), some (vi k), none]) (fun _ _ _ _ ρ => ρ) (fun u r w k ρ => 0 ≤ u ∧ u < 256 ∧ 0 ≤ r ∧ r ≤ 8 ∧ 0 ≤ w ∧ w ≤ 8 ∧ 0 ≤ k ∧ k ≤ 520 ∧ fr rgCh σ ρ ∧ iCh ρ ∧ mkI σ ρ) (fun _ _ _ k _ => (520 - k).toNat) ?_ 0 0 0 0 _ ⟨by omega, by omega, by omega, by omega, by omega, by omega, by omega, by omega, fr_up fr.rf (by simp [rgCh]), iCh_cg hC (fun k => up_ne _ _ _ _ (by omega)), up_same _ _ _ _, fun k => Or.inl (up_ne _ _ _ _ (by decide))⟩
  rintro u r w k ρ ⟨u1, u2, r1, r2, w1, w2, k1, k2, f, hC1, hm⟩ ih
  refine ok_iload 14 rfl rfl rfl (ok_sipush 15 rfl rfl (by decide) (by decide) (ok_icmp_ge 16 143 rfl rfl rfl (fun h27 => ?_) (fun h27 => ?_)))
  · refine ok_iload 80 rfl rfl rfl (ok_iload_n 81 rfl rfl rfl (ok_icmp_ne 82 153 rfl rfl rfl (fun h146 => ?_) (fun h146 => ?_)))
    · refine ok_iconst 85 rfl rfl (by decide) (ok_zret 86 rfl rfl rfl (by first | omega | (simp [up_if]; omega) | (simp [up_if] at *; omega)) ?_)
      exact ⟨_, rfl, f, hC1, by omega, hm.s⟩
    · refine ok_iconst 83 rfl rfl (by decide) (ok_goto 84 154 rfl rfl rfl (ok_zret 86 rfl rfl rfl (by first | omega | (simp [up_if]; omega) | (simp [up_if] at *; omega)) ?_))
      exact ⟨_, rfl, f, hC1, by omega, hm.s⟩
  · refine ok_iload 17 rfl rfl rfl (ok_iload_n 18 rfl rfl rfl (ok_icmp_ge 19 143 rfl rfl rfl (fun h33 => ?_) (fun h33 => ?_)))
    · refine ok_iload 80 rfl rfl rfl (ok_iload_n 81 rfl rfl rfl (ok_icmp_ne 82 153 rfl rfl rfl (fun h146 => ?_) (fun h146 => ?_)))
      · refine ok_iconst 85 rfl rfl (by decide) (ok_zret 86 rfl rfl rfl (by first | omega | (simp [up_if]; omega) | (simp [up_if] at *; omega)) ?_)
        exact ⟨_, rfl, f, hC1, by omega, hm.s⟩
      · refine ok_iconst 83 rfl rfl (by decide) (ok_goto 84 154 rfl rfl rfl (ok_zret 86 rfl rfl rfl (by first | omega | (simp [up_if]; omega) | (simp [up_if] at *; omega)) ?_))
        exact ⟨_, rfl, f, hC1, by omega, hm.s⟩
    · refine ok_aload_n 20 rfl rfl rfl (ok_lload_n 21 rfl rfl rfl (ok_iload 22 rfl rfl rfl (ok_callSI (M' := M_Jo_rowOf) (as := [_, _]) 23 rfl rfl ml_X0_26 (s_Jo_rowOf) ⟨Nat.le_of_ble_eq_true rfl, Nat.le_of_ble_eq_true rfl⟩ rfl (Nat.le_of_ble_eq_true rfl) (fun σ' z hz => ?_))))
      rw [hz.1, hz.2]
      clear hz z σ'
      refine ok_iload 24 rfl rfl rfl (ok_iconst 25 rfl rfl (by decide) (ok_ixor 26 rfl rfl (ok_iand 27 rfl rfl (ok_iload 28 rfl rfl rfl (ok_iload 29 rfl rfl rfl (ok_iload_n 30 rfl rfl rfl (ok_callVI (M' := M_Ch_nextColumn) (as := [_, _, _, _]) 31 rfl rfl ml_X0_32 (s_Ch_nextColumn ⟨u1, u2⟩ w1 hn) rfl rfl (Nat.le_of_ble_eq_true rfl) ⟨Nat.le_of_ble_eq_true rfl, Nat.le_of_ble_eq_true rfl⟩ rfl (Nat.le_of_ble_eq_true rfl) (fun σ' z hz => ?_))))))))
      obtain ⟨hs_, hz⟩ := hz
      rw [hs_]; clear hs_ σ'
      refine ok_ist8 32 rfl rfl rfl (ok_iload 33 rfl rfl rfl (ok_iload_n 34 rfl rfl rfl (ok_icmp_ge 35 91 rfl rfl rfl (fun h61 => ?_) (fun h61 => ?_))))
      · refine ok_iload 51 rfl rfl rfl (ok_if_ne 52 98 rfl rfl rfl (fun h93 => ?_) (fun h93 => ?_))
        · have c := hC1 (r + -1) (by omega) (by omega)
          have b := xor8 ⟨u1, u2⟩ (j := ρ 17 (r + -1)) ⟨by omega, by omega⟩
          have e : ∀ x, up ρ 19 u x 17 (r + -1) = ρ 17 (r + -1) := fun x => up_ne _ _ _ _ (by decide)
          refine ok_aload_n 55 rfl rfl rfl (ok_getR 56 rfl rfl fl_X0_19 rfl rfl (ok_iload 57 rfl rfl rfl (ok_aload_n 58 rfl rfl rfl (ok_getI 59 rfl rfl fl_X0_22 rfl rfl (Or.inl rfl) (ok_iast 60 rfl rfl rfl (by first | omega | (simp [up_if]; omega) | (simp [up_if] at *; omega)) (ok_inc5 61 rfl rfl rfl (by first | omega | (simp [up_if]; omega) | (simp [up_if] at *; omega)) (ok_iload 62 rfl rfl rfl (ok_iconst 63 rfl rfl (by decide) (ok_aload_n 64 rfl rfl rfl (ok_getR 65 rfl rfl fl_X0_9 rfl rfl (ok_iload 66 rfl rfl rfl (ok_iald 67 rfl rfl rfl (by first | omega | (simp [up_if]; omega) | (simp [up_if] at *; omega)) (ok_ishl 68 rfl rfl (ok_ixor 69 rfl rfl (ok_ist4 70 rfl rfl rfl (ok_aload_n 71 rfl rfl rfl (ok_getR 72 rfl rfl fl_X0_9 rfl rfl (ok_iload 73 rfl rfl rfl (ok_iald 74 rfl rfl rfl (by first | omega | (simp [up_if]; omega) | (simp [up_if] at *; omega)) (ok_iconst 75 rfl rfl (by decide) (ok_iadd 76 rfl rfl (by first | omega | (simp [up_if]; omega) | (simp [up_if] at *; omega)) (ok_ist6 77 rfl rfl rfl (ok_inc7 78 rfl rfl rfl (by first | omega | (simp [up_if]; omega) | (simp [up_if] at *; omega)) (ok_goto 79 22 rfl rfl rfl ?_))))))))))))))))))))))))
          rw [e]
          exact ok_fg [some (vr 16), some (vl J), none, some (vi n), some (vi _), some (vi (r + -1)), some (vi _), some (vi (k + 1)), none] ⟨rfl, rfl, rfl, rfl, rfl, rfl, rfl, trivial⟩ (ih _ (r + -1) _ (k + 1) _ ⟨b.1, b.2, by omega, by omega, by omega, by omega, by omega, by omega, fr_up f (by simp [rgCh]), iCh_cg hC1 (fun k => up_ne _ _ _ _ (by decide)), hm.u19⟩ (by omega))
        · refine ok_iconst 53 rfl rfl (by decide) (ok_zret 54 rfl rfl rfl (by first | omega | (simp [up_if]; omega) | (simp [up_if] at *; omega)) ?_)
          exact ⟨_, rfl, f, hC1, Or.inl rfl, hm.s⟩
      · have b := or8 ⟨u1, u2⟩ (j := z) ⟨by omega, by omega⟩
        refine ok_aload_n 36 rfl rfl rfl (ok_getR 37 rfl rfl fl_X0_9 rfl rfl (ok_iload 38 rfl rfl rfl (ok_iload 39 rfl rfl rfl (ok_iast 40 rfl rfl rfl (by first | omega | (simp [up_if]; omega) | (simp [up_if] at *; omega)) (ok_iload 41 rfl rfl rfl (ok_iconst 42 rfl rfl (by decide) (ok_iload 43 rfl rfl rfl (ok_ishl 44 rfl rfl (ok_ior 45 rfl rfl (ok_ist4 46 rfl rfl rfl (ok_iconst 47 rfl rfl (by decide) (ok_ist6 48 rfl rfl rfl (ok_inc5 49 rfl rfl rfl (by first | omega | (simp [up_if]; omega) | (simp [up_if] at *; omega)) (ok_goto 50 137 rfl rfl rfl (ok_inc7 78 rfl rfl rfl (by first | omega | (simp [up_if]; omega) | (simp [up_if] at *; omega)) (ok_goto 79 22 rfl rfl rfl ?_))))))))))))))))
        exact ok_fg [some (vr 16), some (vl J), none, some (vi n), some (vi _), some (vi (r + 1)), some (vi _), some (vi (k + 1)), none] ⟨rfl, rfl, rfl, rfl, rfl, rfl, rfl, trivial⟩ (ih _ (r + 1) _ (k + 1) _ ⟨b.1, b.2, by omega, by omega, by omega, by omega, by omega, by omega, fr_up f (by simp [rgCh]), up_ch hC1 ⟨by omega, by omega⟩, hm.u17⟩ (by omega))
theorem s_Ch_greatestLeast {σ : eS} {c : Nat} {J n : Int} (hs : nth shA c = some (1, 64, [])) (hn : 0 ≤ n ∧ n ≤ 8) : MtL shA M_Ch_greatestLeast [vr 16, vr c, vl J, vi n] σ (fun σ' _ => fr (fun c _ => c = 18) σ σ') := by
  refine Mt.of okM_Ch_greatestLeast (Nat.le_of_ble_eq_true rfl) (fun hk hg => ?_)
  have b2 := bit2 hn
  refine ok_iconst 0 rfl rfl (by decide) (ok_iload 1 rfl rfl rfl (ok_ishl 2 rfl rfl ?_))
  rw [b2.1]
  refine ok_iconst 3 rfl rfl (by decide) (ok_isub 4 rfl rfl (by first | omega | (simp [up_if]; omega) | (simp [up_if] at *; omega)) (ok_ist5 5 rfl rfl rfl (ok_aload_n 6 rfl rfl rfl (ok_getR 7 rfl rfl fl_X0_15 rfl rfl (ok_iload 8 rfl rfl rfl (ok_ldc2 9 (9223372036854775807) rfl rfl kc_X0_36 (by decide) (ok_last 10 rfl rfl rfl (by first | omega | (simp [up_if]; omega) | (simp [up_if] at *; omega)) (ok_iload 11 rfl rfl rfl (ok_iconst 12 rfl rfl (by decide) (ok_isub 13 rfl rfl (by first | omega | (simp [up_if]; omega) | (simp [up_if] at *; omega)) (ok_ist6 14 rfl rfl rfl ?_)))))))))))
  refine lpO2 (fun (s : Int) (_ : eS) => [some (vr 16), some (vr c), some (vl J), none, some (vi n), some (vi (p2 n - 1)), some (vi s), none, none, none, none, none]) (fun _ ρ => ρ) (fun s ρ => -1 ≤ s ∧ s < p2 n - 1 ∧ fr (fun c _ => c = 18) σ ρ) (fun s _ => (s + 1).toNat) ?_ (p2 n - 1 - 1) _ ⟨by omega, by omega, fr_up fr.rf rfl⟩
  rintro s ρ ⟨s1, s2, f⟩ ih
  refine ok_iload 15 rfl rfl rfl (ok_if_lt 16 128 rfl rfl rfl (fun h26 => ?_) (fun h26 => ?_))
  · refine ok_aload_n 70 rfl rfl rfl (ok_getR 71 rfl rfl fl_X0_15 rfl rfl (ok_iconst 72 rfl rfl (by decide) (ok_lald 73 rfl rfl rfl (by first | omega | (simp [up_if]; omega) | (simp [up_if] at *; omega)) (ok_lret 74 rfl rfl rfl ?_))))
    exact ⟨_, rfl, f⟩
  · refine ok_iload 17 rfl rfl rfl (ok_callSI (M' := M_Ji_bitCount) (as := [_]) 18 rfl rfl ml_X0_38 (s_Ji_bitCount) ⟨Nat.le_of_ble_eq_true rfl, Nat.le_of_ble_eq_true rfl⟩ rfl (Nat.le_of_ble_eq_true rfl) (fun σ' z hz => ?_))
    rw [hz.1, hz.2]
    clear hz z σ'
    have p1 := (bitL (s := s) ⟨by omega, by omega⟩ hn)
    have p3 := p1.1 s2
    have p4 := p1.2.2.1
    clear p1
    rw [bcP (s := s) ⟨by omega, by omega⟩]
    refine ok_ist7 19 rfl rfl rfl (ok_lload_n 20 rfl rfl rfl (ok_iload 21 rfl rfl rfl (ok_callSI (M' := M_Jo_rowOf) (as := [_, _]) 22 rfl rfl ml_X0_26 (s_Jo_rowOf) ⟨Nat.le_of_ble_eq_true rfl, Nat.le_of_ble_eq_true rfl⟩ rfl (Nat.le_of_ble_eq_true rfl) (fun σ' z hz => ?_))))
    rw [hz.1, hz.2]
    clear hz z σ'
    refine ok_iload 23 rfl rfl rfl (ok_iconst 24 rfl rfl (by decide) (ok_ixor 25 rfl rfl (ok_iand 26 rfl rfl (ok_ist8 27 rfl rfl rfl (ok_ldc2 28 (-1) rfl rfl kc_X0_44 (by decide) (ok_lst9 29 rfl rfl rfl (ok_iconst 30 rfl rfl (by decide) (ok_ist11 31 rfl rfl rfl ?_))))))))
    obtain ⟨o, eo⟩ : ∃ o : Int, o = iand (rowJ J (pc s)) (ixor s (-1)) := ⟨_, rfl⟩
    rw [← eo]
    refine lpO2 (fun (v j : Int) => [some (vr 16), some (vr c), some (vl J), none, some (vi n), some (vi (p2 n - 1)), some (vi s), some (vi (pc s)), some (vi o), some (vl v), none, some (vi j)]) (fun _ _ => ρ) (fun _ j => 0 ≤ j ∧ j ≤ 8) (fun _ j => (8 - j).toNat) ?_ (-1) 0 ⟨by omega, by omega⟩
    rintro v j ⟨j1, j2⟩ ih2
    refine ok_iload 32 rfl rfl rfl (ok_iload 33 rfl rfl rfl (ok_icmp_ge 34 113 rfl rfl rfl (fun h61 => ?_) (fun h61 => ?_)))
    · refine ok_aload_n 63 rfl rfl rfl (ok_getR 64 rfl rfl fl_X0_15 rfl rfl (ok_iload 65 rfl rfl rfl (ok_lload 66 rfl rfl rfl (ok_last 67 rfl rfl rfl (by first | omega | (simp [up_if]; omega) | (simp [up_if] at *; omega)) (ok_inc6 68 rfl rfl rfl (by first | omega | (simp [up_if]; omega) | (simp [up_if] at *; omega)) (ok_goto 69 24 rfl rfl rfl ?_))))))
      exact ok_fg [some (vr 16), some (vr c), some (vl J), none, some (vi n), some (vi (p2 n - 1)), some (vi (s + -1)), none, none, none, none, none] ⟨rfl, rfl, rfl, rfl, rfl, rfl, trivial⟩ (ih (s + -1) _ ⟨by omega, by omega, fr_up f rfl⟩ (by omega))
    · have b := or8 (s := s) (j := j) ⟨by omega, by omega⟩ ⟨by omega, by omega⟩
      refine ok_iload 35 rfl rfl rfl (ok_iload 36 rfl rfl rfl (ok_ishr 37 rfl rfl (ok_iconst 38 rfl rfl (by decide) (ok_iand 39 rfl rfl (ok_if_eq 40 107 rfl rfl rfl (fun h71 => ?_) (fun h71 => ?_))))))
      · refine ok_inc11 61 rfl rfl rfl (by first | omega | (simp [up_if]; omega) | (simp [up_if] at *; omega)) (ok_goto 62 57 rfl rfl rfl ?_)
        exact ih2 _ (j + 1) ⟨by omega, by omega⟩ (by omega)
      · refine ok_lload 41 rfl rfl rfl (ok_aload_n 42 rfl rfl rfl (ok_iload 43 rfl rfl rfl (ok_bipush 44 rfl rfl (by decide) (by decide) (ok_imul 45 rfl rfl (by first | omega | (simp [up_if]; omega) | (simp [up_if] at *; omega)) (ok_iload 46 rfl rfl rfl (ok_iadd 47 rfl rfl (by first | omega | (simp [up_if]; omega) | (simp [up_if] at *; omega)) (ok_iald 48 rfl rfl hs (by first | omega | (simp [up_if]; omega) | (simp [up_if] at *; omega)) (ok_i2l 49 rfl rfl (ok_aload_n 50 rfl rfl rfl (ok_getR 51 rfl rfl fl_X0_15 rfl rfl (ok_iload 52 rfl rfl rfl (ok_iconst 53 rfl rfl (by decide) (ok_iload 54 rfl rfl rfl (ok_ishl 55 rfl rfl (ok_ior 56 rfl rfl (ok_lald 57 rfl rfl rfl (by first | omega | (simp [up_if]; omega) | (simp [up_if] at *; omega)) (ok_mminL 58 rfl rfl ml_X0_46 ⟨Nat.le_of_ble_eq_true rfl, Nat.le_of_ble_eq_true rfl⟩ (ok_mmaxL 59 rfl rfl ml_X0_52 ⟨Nat.le_of_ble_eq_true rfl, Nat.le_of_ble_eq_true rfl⟩ (ok_lst9 60 rfl rfl rfl (ok_inc11 61 rfl rfl rfl (by first | omega | (simp [up_if]; omega) | (simp [up_if] at *; omega)) (ok_goto 62 57 rfl rfl rfl ?_)))))))))))))))))))))
        exact ih2 _ (j + 1) ⟨by omega, by omega⟩ (by omega)
theorem s_Ch_sumUp {σ : eS} {c : Nat} {J n : Int} (hs : nth shA c = some (1, 64, [])) (hn : 0 ≤ n ∧ n ≤ 8) : MtV shA M_Ch_sumUp [vr 16, vr c, vl J, vi n] σ (fun σ' => fr (fun c _ => c = 18) σ σ') := by
  refine Mt.of okM_Ch_sumUp (Nat.le_of_ble_eq_true rfl) (fun hk hg => ?_)
  have b2 := bit2 hn
  refine ok_iconst 0 rfl rfl (by decide) (ok_iload 1 rfl rfl rfl (ok_ishl 2 rfl rfl ?_))
  rw [b2.1]
  refine ok_iconst 3 rfl rfl (by decide) (ok_isub 4 rfl rfl (by first | omega | (simp [up_if]; omega) | (simp [up_if] at *; omega)) (ok_ist5 5 rfl rfl rfl (ok_aload_n 6 rfl rfl rfl (ok_getR 7 rfl rfl fl_X0_15 rfl rfl (ok_iload 8 rfl rfl rfl (ok_lconst (w := 0) 9 rfl rfl rfl (by decide) (ok_last 10 rfl rfl rfl (by first | omega | (simp [up_if]; omega) | (simp [up_if] at *; omega)) (ok_iload 11 rfl rfl rfl (ok_iconst 12 rfl rfl (by decide) (ok_isub 13 rfl rfl (by first | omega | (simp [up_if]; omega) | (simp [up_if] at *; omega)) (ok_ist6 14 rfl rfl rfl ?_)))))))))))
  refine lpO2 (fun (s : Int) (_ : eS) => [some (vr 16), some (vr c), some (vl J), none, some (vi n), some (vi (p2 n - 1)), some (vi s), none, none, none, none, none]) (fun _ ρ => ρ) (fun s ρ => -1 ≤ s ∧ s < p2 n - 1 ∧ fr (fun c _ => c = 18) σ ρ) (fun s _ => (s + 1).toNat) ?_ (p2 n - 1 - 1) _ ⟨by omega, by omega, fr_up fr.rf rfl⟩
  rintro s ρ ⟨s1, s2, f⟩ ih
  refine ok_iload 15 rfl rfl rfl (ok_if_lt 16 143 rfl rfl rfl (fun h24 => ?_) (fun h24 => ?_))
  · refine ok_vret 81 rfl rfl rfl ?_
    exact ⟨rfl, f⟩
  · refine ok_iload 17 rfl rfl rfl (ok_callSI (M' := M_Ji_bitCount) (as := [_]) 18 rfl rfl ml_X0_38 (s_Ji_bitCount) ⟨Nat.le_of_ble_eq_true rfl, Nat.le_of_ble_eq_true rfl⟩ rfl (Nat.le_of_ble_eq_true rfl) (fun σ' z hz => ?_))
    rw [hz.1, hz.2]
    clear hz z σ'
    have p1 := (bitL (s := s) ⟨by omega, by omega⟩ hn)
    have p3 := p1.1 s2
    have p4 := p1.2.2.1
    clear p1
    rw [bcP (s := s) ⟨by omega, by omega⟩]
    refine ok_ist7 19 rfl rfl rfl (ok_lload_n 20 rfl rfl rfl (ok_iload 21 rfl rfl rfl (ok_callSI (M' := M_Jo_rowOf) (as := [_, _]) 22 rfl rfl ml_X0_26 (s_Jo_rowOf) ⟨Nat.le_of_ble_eq_true rfl, Nat.le_of_ble_eq_true rfl⟩ rfl (Nat.le_of_ble_eq_true rfl) (fun σ' z hz => ?_))))
    rw [hz.1, hz.2]
    clear hz z σ'
    refine ok_iload 23 rfl rfl rfl (ok_iconst 24 rfl rfl (by decide) (ok_ixor 25 rfl rfl (ok_iand 26 rfl rfl (ok_ist8 27 rfl rfl rfl (ok_ldc2 28 (-1) rfl rfl kc_X0_44 (by decide) (ok_lst9 29 rfl rfl rfl (ok_iconst 30 rfl rfl (by decide) (ok_ist11 31 rfl rfl rfl ?_))))))))
    obtain ⟨o, eo⟩ : ∃ o : Int, o = iand (rowJ J (pc s)) (ixor s (-1)) := ⟨_, rfl⟩
    rw [← eo]
    refine lpO2 (fun (v j : Int) => [some (vr 16), some (vr c), some (vl J), none, some (vi n), some (vi (p2 n - 1)), some (vi s), some (vi (pc s)), some (vi o), some (vl v), none, some (vi j)]) (fun _ _ => ρ) (fun _ j => 0 ≤ j ∧ j ≤ 8) (fun _ j => (8 - j).toNat) ?_ (-1) 0 ⟨by omega, by omega⟩
    rintro v j ⟨j1, j2⟩ ih2
    refine ok_iload 32 rfl rfl rfl (ok_iload 33 rfl rfl rfl (ok_icmp_ge 34 128 rfl rfl rfl (fun h59 => ?_) (fun h59 => ?_)))
    · refine ok_aload_n 74 rfl rfl rfl (ok_getR 75 rfl rfl fl_X0_15 rfl rfl (ok_iload 76 rfl rfl rfl (ok_lload 77 rfl rfl rfl (ok_last 78 rfl rfl rfl (by first | omega | (simp [up_if]; omega) | (simp [up_if] at *; omega)) (ok_inc6 79 rfl rfl rfl (by first | omega | (simp [up_if]; omega) | (simp [up_if] at *; omega)) (ok_goto 80 22 rfl rfl rfl ?_))))))
      exact ok_fg [some (vr 16), some (vr c), some (vl J), none, some (vi n), some (vi (p2 n - 1)), some (vi (s + -1)), none, none, none, none, none] ⟨rfl, rfl, rfl, rfl, rfl, rfl, trivial⟩ (ih (s + -1) _ ⟨by omega, by omega, fr_up f rfl⟩ (by omega))
    · have b := or8 (s := s) (j := j) ⟨by omega, by omega⟩ ⟨by omega, by omega⟩
      refine ok_iload 35 rfl rfl rfl (ok_iload 36 rfl rfl rfl (ok_ishr 37 rfl rfl (ok_iconst 38 rfl rfl (by decide) (ok_iand 39 rfl rfl (ok_if_eq 40 122 rfl rfl rfl (fun h69 => ?_) (fun h69 => ?_))))))
      · refine ok_inc11 72 rfl rfl rfl (by first | omega | (simp [up_if]; omega) | (simp [up_if] at *; omega)) (ok_goto 73 55 rfl rfl rfl ?_)
        exact ih2 _ (j + 1) ⟨by omega, by omega⟩ (by omega)
      · refine ok_aload_n 41 rfl rfl rfl (ok_getR 42 rfl rfl fl_X0_15 rfl rfl (ok_iload 43 rfl rfl rfl (ok_iconst 44 rfl rfl (by decide) (ok_iload 45 rfl rfl rfl (ok_ishl 46 rfl rfl (ok_ior 47 rfl rfl (ok_lald 48 rfl rfl rfl (by first | omega | (simp [up_if]; omega) | (simp [up_if] at *; omega)) (ok_ldc2 49 (-1) rfl rfl kc_X0_44 (by decide) (ok_lcmp_eq 50 51 122 rfl rfl rfl rfl rfl (fun h87 => ?_) (fun h87 => ?_))))))))))
        · refine ok_inc11 72 rfl rfl rfl (by first | omega | (simp [up_if]; omega) | (simp [up_if] at *; omega)) (ok_goto 73 55 rfl rfl rfl ?_)
          exact ih2 _ (j + 1) ⟨by omega, by omega⟩ (by omega)
        · refine ok_lload 52 rfl rfl rfl (ok_aload_n 53 rfl rfl rfl (ok_iload 54 rfl rfl rfl (ok_bipush 55 rfl rfl (by decide) (by decide) (ok_imul 56 rfl rfl (by first | omega | (simp [up_if]; omega) | (simp [up_if] at *; omega)) (ok_iload 57 rfl rfl rfl (ok_iadd 58 rfl rfl (by first | omega | (simp [up_if]; omega) | (simp [up_if] at *; omega)) (ok_iald 59 rfl rfl hs (by first | omega | (simp [up_if]; omega) | (simp [up_if] at *; omega)) (ok_i2l 60 rfl rfl (ok_aload_n 61 rfl rfl rfl (ok_getR 62 rfl rfl fl_X0_15 rfl rfl (ok_iload 63 rfl rfl rfl (ok_iconst 64 rfl rfl (by decide) (ok_iload 65 rfl rfl rfl (ok_ishl 66 rfl rfl (ok_ior 67 rfl rfl (ok_lald 68 rfl rfl rfl (by first | omega | (simp [up_if]; omega) | (simp [up_if] at *; omega)) (ok_laddW 69 rfl rfl (ok_mmaxL 70 rfl rfl ml_X0_52 ⟨Nat.le_of_ble_eq_true rfl, Nat.le_of_ble_eq_true rfl⟩ (ok_lst9 71 rfl rfl rfl (ok_inc11 72 rfl rfl rfl (by first | omega | (simp [up_if]; omega) | (simp [up_if] at *; omega)) (ok_goto 73 55 rfl rfl rfl ?_)))))))))))))))))))))
          exact ih2 _ (j + 1) ⟨by omega, by omega⟩ (by omega)
theorem s_Ch_richestColumn {σ : eS} {c : Nat} {r o u n : Int} (hs : nth shA c = some (1, 64, [])) (hr : 0 ≤ r ∧ r < 8) (hu : 0 ≤ u ∧ u < 256) (hn : n ≤ 8) : MtI shA M_Ch_richestColumn [vr 16, vr c, vi r, vi o, vi u, vi n] σ (fun σ' z => σ' = σ ∧ 0 ≤ z ∧ z ≤ 7) := by
  refine Mt.of okM_Ch_richestColumn (Nat.le_of_ble_eq_true rfl) (fun hk hg => ?_)
  refine ok_iconst 0 rfl rfl (by decide) (ok_ist6 1 rfl rfl rfl ?_)
  refine lpO (fun j : Int => [some (vr 16), some (vr c), some (vi r), some (vi o), some (vi u), some (vi n), some (vi j), none, none]) (fun _ => σ) (fun j => 0 ≤ j ∧ j ≤ 8) (fun j => (8 - j).toNat) ?_ 0 ⟨by omega, by omega⟩
  rintro j ⟨j1, j2⟩ ih
  refine ok_iload 2 rfl rfl rfl (ok_iload 3 rfl rfl rfl (ok_icmp_ge 4 75 rfl rfl rfl (fun h7 => ?_) (fun h7 => ?_)))
  · refine ok_iconst 44 rfl rfl (by decide) (ok_iret 45 rfl rfl rfl ?_)
    exact ⟨_, rfl, rfl, by omega, by omega⟩
  · have b := or8 hu (j := j) ⟨by omega, by omega⟩
    refine ok_iload_n 5 rfl rfl rfl (ok_iload 6 rfl rfl rfl (ok_ishr 7 rfl rfl (ok_iconst 8 rfl rfl (by decide) (ok_iand 9 rfl rfl (ok_if_eq 10 69 rfl rfl rfl (fun h16 => ?_) (fun h16 => ?_))))))
    · refine ok_inc6 42 rfl rfl rfl (by first | omega | (simp [up_if]; omega) | (simp [up_if] at *; omega)) (ok_goto 43 3 rfl rfl rfl ?_)
      exact ok_fg [some (vr 16), some (vr c), some (vi r), some (vi o), some (vi u), some (vi n), some (vi (j + 1)), none, none] ⟨rfl, rfl, rfl, rfl, rfl, rfl, rfl, trivial⟩ (ih (j + 1) ⟨by omega, by omega⟩ (by omega))
    · refine ok_aload_n 11 rfl rfl rfl (ok_getR 12 rfl rfl fl_X0_15 rfl rfl (ok_iload 13 rfl rfl rfl (ok_iconst 14 rfl rfl (by decide) (ok_iload 15 rfl rfl rfl (ok_ishl 16 rfl rfl (ok_ior 17 rfl rfl (ok_lald 18 rfl rfl rfl (by first | omega | (simp [up_if]; omega) | (simp [up_if] at *; omega)) (ok_lst7 19 rfl rfl rfl (ok_lload 20 rfl rfl rfl (ok_ldc2 21 (-1) rfl rfl kc_X0_44 (by decide) (ok_lcmp_eq 22 23 69 rfl rfl rfl rfl rfl (fun h38 => ?_) (fun h38 => ?_))))))))))))
      · refine ok_inc6 42 rfl rfl rfl (by first | omega | (simp [up_if]; omega) | (simp [up_if] at *; omega)) (ok_goto 43 3 rfl rfl rfl ?_)
        exact ok_fg [some (vr 16), some (vr c), some (vi r), some (vi o), some (vi u), some (vi n), some (vi (j + 1)), none, none] ⟨rfl, rfl, rfl, rfl, rfl, rfl, rfl, trivial⟩ (ih (j + 1) ⟨by omega, by omega⟩ (by omega))
      · refine ok_aload_n 24 rfl rfl rfl (ok_iload_n 25 rfl rfl rfl (ok_bipush 26 rfl rfl (by decide) (by decide) (ok_imul 27 rfl rfl (by first | omega | (simp [up_if]; omega) | (simp [up_if] at *; omega)) (ok_iload 28 rfl rfl rfl (ok_iadd 29 rfl rfl (by first | omega | (simp [up_if]; omega) | (simp [up_if] at *; omega)) (ok_iald 30 rfl rfl hs (by first | omega | (simp [up_if]; omega) | (simp [up_if] at *; omega)) (ok_i2l 31 rfl rfl (ok_lload 32 rfl rfl rfl (ok_laddW 33 rfl rfl (ok_aload_n 34 rfl rfl rfl (ok_getR 35 rfl rfl fl_X0_15 rfl rfl (ok_iload 36 rfl rfl rfl (ok_lald 37 rfl rfl rfl (by first | omega | (simp [up_if]; omega) | (simp [up_if] at *; omega)) (ok_lcmp_ne 38 39 69 rfl rfl rfl rfl rfl (fun h62 => ?_) (fun h62 => ?_)))))))))))))))
        · refine ok_inc6 42 rfl rfl rfl (by first | omega | (simp [up_if]; omega) | (simp [up_if] at *; omega)) (ok_goto 43 3 rfl rfl rfl ?_)
          exact ok_fg [some (vr 16), some (vr c), some (vi r), some (vi o), some (vi u), some (vi n), some (vi (j + 1)), none, none] ⟨rfl, rfl, rfl, rfl, rfl, rfl, rfl, trivial⟩ (ih (j + 1) ⟨by omega, by omega⟩ (by omega))
        · refine ok_iload 40 rfl rfl rfl (ok_iret 41 rfl rfl rfl ?_)
          exact ⟨_, rfl, rfl, by omega, by omega⟩
theorem s_Ch_findRichest {σ : eS} {c : Nat} {J n : Int} (hs : nth shA c = some (1, 64, [])) (hC : iCh σ) (hn : 0 ≤ n ∧ n ≤ 8) : MtL shA M_Ch_findRichest [vr 16, vr c, vl J, vi n] σ (fun σ' _ => fr rgCh σ σ' ∧ iCh σ' ∧ mkS 0 σ σ') := by
  refine Mt.of okM_Ch_findRichest (Nat.le_of_ble_eq_true rfl) (fun hk hg => ?_)
  have r0 : ∀ {ρ : eS}, fr (fun c _ => c = 17 ∨ c = 18) σ ρ → fr rgCh σ ρ ∧ mkS 0 σ ρ := fun {ρ} f => ⟨f.mono (fun c k q => by simp only [rgCh]; omega), mkS_fr (by decide) f (by omega) (fun k => by omega)⟩
  refine ok_aload_n 0 rfl rfl rfl (ok_aload_n 1 rfl rfl rfl (ok_lload_n 2 rfl rfl rfl (ok_iload 3 rfl rfl rfl (ok_callVV (M' := M_Ch_sumUp) (as := [_, _, _]) 4 rfl rfl ml_X0_55 (s_Ch_sumUp hs hn) rfl rfl (Nat.le_of_ble_eq_true rfl) ⟨Nat.le_of_ble_eq_true rfl, Nat.le_of_ble_eq_true rfl⟩ rfl (Nat.le_of_ble_eq_true rfl) (fun τ f => ?_)))))
  have f0 : fr (fun c _ => c = 17 ∨ c = 18) σ τ := f.mono (fun c k q => by omega)
  have hC0 : iCh τ := iCh_cg hC (fun k => f _ _ (by simp))
  refine ok_aload_n 5 rfl rfl rfl (ok_getR 6 rfl rfl fl_X0_15 rfl rfl (ok_iconst 7 rfl rfl (by decide) (ok_lald 8 rfl rfl rfl (by first | omega | (simp [up_if]; omega) | (simp [up_if] at *; omega)) (ok_ldc2 9 (-1) rfl rfl kc_X0_44 (by decide) (ok_lcmp_ne 10 11 25 rfl rfl rfl rfl rfl (fun h17 => ?_) (fun h17 => ?_))))))
  · refine ok_iconst 14 rfl rfl (by decide) (ok_ist5 15 rfl rfl rfl (ok_iconst 16 rfl rfl (by decide) (ok_ist6 17 rfl rfl rfl ?_)))
    refine lpO3 (fun (u r : Int) (_ : eS) => [some (vr 16), some (vr c), some (vl J), none, some (vi n), some (vi u), some (vi r), none]) (fun _ _ ρ => ρ) (fun u r ρ => 0 ≤ u ∧ u < 256 ∧ 0 ≤ r ∧ r ≤ 8 ∧ fr (fun c _ => c = 17 ∨ c = 18) σ ρ ∧ iCh ρ) (fun _ r _ => (8 - r).toNat) ?_ 0 0 τ ⟨by omega, by omega, by omega, by omega, f0, hC0⟩
    rintro u r ρ ⟨u1, u2, r1, r2, f1, hC1⟩ ih
    refine ok_iload 18 rfl rfl rfl (ok_iload 19 rfl rfl rfl (ok_icmp_ge 20 86 rfl rfl rfl (fun h35 => ?_) (fun h35 => ?_)))
    · refine ok_aload_n 48 rfl rfl rfl (ok_getR 49 rfl rfl fl_X0_15 rfl rfl (ok_iconst 50 rfl rfl (by decide) (ok_lald 51 rfl rfl rfl (by first | omega | (simp [up_if]; omega) | (simp [up_if] at *; omega)) (ok_lret 52 rfl rfl rfl ?_))))
      exact ⟨_, rfl, (r0 f1).1, hC1, (r0 f1).2⟩
    · refine ok_aload_n 21 rfl rfl rfl (ok_aload_n 22 rfl rfl rfl (ok_iload 23 rfl rfl rfl (ok_lload_n 24 rfl rfl rfl (ok_iload 25 rfl rfl rfl (ok_callSI (M' := M_Jo_rowOf) (as := [_, _]) 26 rfl rfl ml_X0_26 (s_Jo_rowOf) ⟨Nat.le_of_ble_eq_true rfl, Nat.le_of_ble_eq_true rfl⟩ rfl (Nat.le_of_ble_eq_true rfl) (fun σ' z hz => ?_))))))
      rw [hz.1, hz.2]
      clear hz z σ'
      refine ok_iload 27 rfl rfl rfl (ok_iconst 28 rfl rfl (by decide) (ok_ixor 29 rfl rfl (ok_iand 30 rfl rfl (ok_iload 31 rfl rfl rfl (ok_iload 32 rfl rfl rfl (ok_callVI (M' := M_Ch_richestColumn) (as := [_, _, _, _, _]) 33 rfl rfl ml_X0_59 (s_Ch_richestColumn hs ⟨by omega, by omega⟩ ⟨u1, u2⟩ hn.2) rfl rfl (Nat.le_of_ble_eq_true rfl) ⟨Nat.le_of_ble_eq_true rfl, Nat.le_of_ble_eq_true rfl⟩ rfl (Nat.le_of_ble_eq_true rfl) (fun σ' z hz => ?_)))))))
      obtain ⟨hs_, hz⟩ := hz
      rw [hs_]; clear hs_ σ'
      refine ok_ist7 34 rfl rfl rfl (ok_aload_n 35 rfl rfl rfl (ok_getR 36 rfl rfl fl_X0_9 rfl rfl (ok_iload 37 rfl rfl rfl (ok_iload 38 rfl rfl rfl (ok_iast 39 rfl rfl rfl (by first | omega | (simp [up_if]; omega) | (simp [up_if] at *; omega)) (ok_iload 40 rfl rfl rfl (ok_iconst 41 rfl rfl (by decide) (ok_iload 42 rfl rfl rfl (ok_ishl 43 rfl rfl (ok_ior 44 rfl rfl (ok_ist5 45 rfl rfl rfl (ok_inc6 46 rfl rfl rfl (by first | omega | (simp [up_if]; omega) | (simp [up_if] at *; omega)) (ok_goto 47 31 rfl rfl rfl ?_)))))))))))))
      have b := or8 ⟨u1, u2⟩ (j := z) ⟨by omega, by omega⟩
      exact ok_fg [some (vr 16), some (vr c), some (vl J), none, some (vi n), some (vi _), some (vi (r + 1)), none] ⟨rfl, rfl, rfl, rfl, rfl, rfl, trivial⟩ (ih _ (r + 1) _ ⟨b.1, b.2, by omega, by omega, fr_up f1 (Or.inl rfl), up_ch hC1 hz⟩ (by omega))
  · refine ok_ldc2 12 (-1) rfl rfl kc_X0_44 (by decide) (ok_lret 13 rfl rfl rfl ?_)
    exact ⟨_, rfl, (r0 f0).1, hC0, (r0 f0).2⟩
end
section
theorem sm_mn {f : Int → Int} {m : Nat} : ∀ {n : Nat}, m ≤ n → (∀ k : Int, 0 ≤ k → k < n → 0 ≤ f k) → sm f m ≤ sm f n
  | 0, h, _ => by rw [show m = 0 by omega]; exact Int.le_refl _
  | n + 1, h, p => by
    rcases (by omega : m ≤ n ∨ m = n + 1) with q | q
    · have e := sm_s f (j := (n : Int)) (by omega)
      rw [show ((n : Int) + 1).toNat = n + 1 by omega, Int.toNat_natCast] at e
      have := sm_mn q (fun k a b => p k a (by omega))
      have := p (n : Int) (by omega) (by omega)
      omega
    · rw [q]; exact Int.le_refl _
theorem mi_bd {σ : eS} {k : Int} (h : iMi σ) (hk : 0 ≤ k) (hk2 : k < σ 22 5) : 0 ≤ σ 23 k ∧ 0 ≤ sm (fun k => σ 23 k) k.toNat ∧ sm (fun k => σ 23 k) k.toNat + σ 23 k ≤ 799999992 := by
  obtain ⟨⟨h1, h2, h3, h4, h5, h6, h7⟩, a, b, c⟩ := h
  have p := a k hk hk2
  have e := sm_s (fun k => σ 23 k) (j := k) hk
  have m := sm_mn (f := fun k => σ 23 k) (m := (k + 1).toNat) (n := (σ 22 5).toNat) (by omega) (fun k x y => a k x (by omega))
  have z := sm_mn (f := fun k => σ 23 k) (m := 0) (n := k.toNat) (by omega) (fun k x y => a k x (by omega))
  have z0 : sm (fun k => σ 23 k) 0 = 0 := rfl
  omega
theorem s_Mi_columnOf {σ : eS} {k r : Int} (h : iMi σ) (hk : 0 ≤ k ∧ k < 64) (hr : 0 ≤ r ∧ r < 8) : MtI shA M_Mi_columnOf [vr 22, vi k, vi r] σ (fun σ' z => σ' = σ ∧ z = σ 24 (k * 8 + r) ∧ 0 ≤ z ∧ z ≤ 7) := by
  refine Mt.of okM_Mi_columnOf (Nat.le_of_ble_eq_true rfl) (fun hk hg => ?_)
  have b := h.2.2.1 (k * 8 + r) (by omega) (by omega)
  refine ok_aload_n 0 rfl rfl rfl (ok_getR 1 rfl rfl fl_X3_15 rfl rfl (ok_iload_n 2 rfl rfl rfl (ok_bipush 3 rfl rfl (by decide) (by decide) (ok_imul 4 rfl rfl (by first | omega | (simp [up_if]; omega) | (simp [up_if] at *; omega)) (ok_iload_n 5 rfl rfl rfl (ok_iadd 6 rfl rfl (by first | omega | (simp [up_if]; omega) | (simp [up_if] at *; omega)) (ok_iald 7 rfl rfl rfl (by first | omega | (simp [up_if]; omega) | (simp [up_if] at *; omega)) (ok_iret 8 rfl rfl rfl ?_))))))))
  exact ⟨_, rfl, rfl, rfl, b.1, b.2⟩
theorem s_Mi_hasPart {σ : eS} {k : Int} : MtI shA M_Mi_hasPart [vr 22, vi k] σ (fun σ' z => σ' = σ ∧ ((z = 1 ∧ 0 ≤ k ∧ k < σ 22 5) ∨ (z = 0 ∧ ¬ (0 ≤ k ∧ k < σ 22 5)))) := by
  refine Mt.of okM_Mi_hasPart (Nat.le_of_ble_eq_true rfl) (fun hk hg => ?_)
  refine ok_iload_n 0 rfl rfl rfl (ok_if_lt 1 16 rfl rfl rfl (fun h1 => ?_) (fun h1 => ?_))
  · refine ok_iconst 8 rfl rfl (by decide) (ok_zret 9 rfl rfl rfl (by first | omega | (simp [up_if]; omega) | (simp [up_if] at *; omega)) ?_)
    exact ⟨_, rfl, rfl, by omega⟩
  · refine ok_iload_n 2 rfl rfl rfl (ok_aload_n 3 rfl rfl rfl (ok_getI 4 rfl rfl fl_X3_28 rfl rfl (Or.inl rfl) (ok_icmp_ge 5 16 rfl rfl rfl (fun h9 => ?_) (fun h9 => ?_))))
    · refine ok_iconst 8 rfl rfl (by decide) (ok_zret 9 rfl rfl rfl (by first | omega | (simp [up_if]; omega) | (simp [up_if] at *; omega)) ?_)
      exact ⟨_, rfl, rfl, by omega⟩
    · refine ok_iconst 6 rfl rfl (by decide) (ok_goto 7 17 rfl rfl rfl (ok_zret 9 rfl rfl rfl (by first | omega | (simp [up_if]; omega) | (simp [up_if] at *; omega)) ?_))
      exact ⟨_, rfl, rfl, by omega⟩
theorem s_Mi_hasRow {σ : eS} {k : Int} : MtI shA M_Mi_hasRow [vr 22, vi k] σ (fun σ' z => σ' = σ ∧ ((z = 1 ∧ 0 ≤ k ∧ k < σ 22 4) ∨ (z = 0 ∧ ¬ (0 ≤ k ∧ k < σ 22 4)))) := by
  refine Mt.of okM_Mi_hasRow (Nat.le_of_ble_eq_true rfl) (fun hk hg => ?_)
  refine ok_iload_n 0 rfl rfl rfl (ok_if_lt 1 16 rfl rfl rfl (fun h1 => ?_) (fun h1 => ?_))
  · refine ok_iconst 8 rfl rfl (by decide) (ok_zret 9 rfl rfl rfl (by first | omega | (simp [up_if]; omega) | (simp [up_if] at *; omega)) ?_)
    exact ⟨_, rfl, rfl, by omega⟩
  · refine ok_iload_n 2 rfl rfl rfl (ok_aload_n 3 rfl rfl rfl (ok_getI 4 rfl rfl fl_X3_25 rfl rfl (Or.inl rfl) (ok_icmp_ge 5 16 rfl rfl rfl (fun h9 => ?_) (fun h9 => ?_))))
    · refine ok_iconst 8 rfl rfl (by decide) (ok_zret 9 rfl rfl rfl (by first | omega | (simp [up_if]; omega) | (simp [up_if] at *; omega)) ?_)
      exact ⟨_, rfl, rfl, by omega⟩
    · refine ok_iconst 6 rfl rfl (by decide) (ok_goto 7 17 rfl rfl rfl (ok_zret 9 rfl rfl rfl (by first | omega | (simp [up_if]; omega) | (simp [up_if] at *; omega)) ?_))
      exact ⟨_, rfl, rfl, by omega⟩
theorem s_Mi_hasJob {σ : eS} {k : Int} : MtI shA M_Mi_hasJob [vr 22, vi k] σ (fun σ' z => σ' = σ ∧ ((z = 1 ∧ σ 22 2 = 2 ∧ 0 ≤ k ∧ k < σ 22 3) ∨ (z = 0 ∧ ¬ (σ 22 2 = 2 ∧ 0 ≤ k ∧ k < σ 22 3)))) := by
  refine Mt.of okM_Mi_hasJob (Nat.le_of_ble_eq_true rfl) (fun hk hg => ?_)
  refine ok_aload_n 0 rfl rfl rfl (ok_getI 1 rfl rfl fl_X3_18 rfl rfl (Or.inl rfl) (ok_iconst 2 rfl rfl (by decide) (ok_icmp_ne 3 24 rfl rfl rfl (fun h5 => ?_) (fun h5 => ?_))))
  · refine ok_iconst 12 rfl rfl (by decide) (ok_zret 13 rfl rfl rfl (by first | omega | (simp [up_if]; omega) | (simp [up_if] at *; omega)) ?_)
    exact ⟨_, rfl, rfl, by omega⟩
  · refine ok_iload_n 4 rfl rfl rfl (ok_if_lt 5 24 rfl rfl rfl (fun h9 => ?_) (fun h9 => ?_))
    · refine ok_iconst 12 rfl rfl (by decide) (ok_zret 13 rfl rfl rfl (by first | omega | (simp [up_if]; omega) | (simp [up_if] at *; omega)) ?_)
      exact ⟨_, rfl, rfl, by omega⟩
    · refine ok_iload_n 6 rfl rfl rfl (ok_aload_n 7 rfl rfl rfl (ok_getI 8 rfl rfl fl_X3_22 rfl rfl (Or.inl rfl) (ok_icmp_ge 9 24 rfl rfl rfl (fun h17 => ?_) (fun h17 => ?_))))
      · refine ok_iconst 12 rfl rfl (by decide) (ok_zret 13 rfl rfl rfl (by first | omega | (simp [up_if]; omega) | (simp [up_if] at *; omega)) ?_)
        exact ⟨_, rfl, rfl, by omega⟩
      · refine ok_iconst 10 rfl rfl (by decide) (ok_goto 11 25 rfl rfl rfl (ok_zret 13 rfl rfl rfl (by first | omega | (simp [up_if]; omega) | (simp [up_if] at *; omega)) ?_))
        exact ⟨_, rfl, rfl, by omega⟩
theorem s_Mi_machineOf {σ : eS} {k r : Int} (h : iMi σ) (hkk : 0 ≤ k ∧ k < 64) (hr : 0 ≤ r ∧ r < 8) : MtI shA M_Mi_machineOf [vr 22, vi k, vi r] σ (fun σ' z => σ' = σ ∧ -1 ≤ z ∧ z ≤ 7) := by
  refine Mt.of okM_Mi_machineOf (Nat.le_of_ble_eq_true rfl) (fun hk hg => ?_)
  refine ok_aload_n 0 rfl rfl rfl (ok_iload_n 1 rfl rfl rfl (ok_iload_n 2 rfl rfl rfl (ok_callVI (M' := M_Mi_columnOf) (as := [_, _]) 3 rfl rfl ml_X3_46 (s_Mi_columnOf h hkk hr) rfl rfl (Nat.le_of_ble_eq_true rfl) ⟨Nat.le_of_ble_eq_true rfl, Nat.le_of_ble_eq_true rfl⟩ rfl (Nat.le_of_ble_eq_true rfl) (fun σ' z hz => ?_))))
  obtain ⟨hs_, hz⟩ := hz
  rw [hs_]; clear hs_ σ'
  refine ok_ist3 4 rfl rfl rfl (ok_iload_n 5 rfl rfl rfl (ok_aload_n 6 rfl rfl rfl (ok_getI 7 rfl rfl fl_X3_22 rfl rfl (Or.inl rfl) (ok_icmp_ge 8 19 rfl rfl rfl (fun h12 => ?_) (fun h12 => ?_)))))
  · refine ok_iconst 11 rfl rfl (by decide) (ok_iret 12 rfl rfl rfl ?_)
    exact ⟨_, rfl, rfl, by omega, by omega⟩
  · refine ok_iload_n 9 rfl rfl rfl (ok_goto 10 20 rfl rfl rfl (ok_iret 12 rfl rfl rfl ?_))
    exact ⟨_, rfl, rfl, by omega, by omega⟩
theorem s_Mi_lastHour {σ : eS} {r : Int} (h : iMi σ) (hr : 0 ≤ r ∧ r < 8) : MtI shA M_Mi_lastHour [vr 22, vi r] σ (fun σ' _ => σ' = σ ∧ True) := by
  refine Mt.of okM_Mi_lastHour (Nat.le_of_ble_eq_true rfl) (fun hk hg => ?_)
  obtain ⟨⟨h1, h2, h3, h4, h5, h6, h7⟩, a, b, d⟩ := id h
  refine ok_iconst 0 rfl rfl (by decide) (ok_ist2 1 rfl rfl rfl (ok_iconst 2 rfl rfl (by decide) (ok_ist3 3 rfl rfl rfl (ok_iconst 4 rfl rfl (by decide) (ok_ist4 5 rfl rfl rfl ?_)))))
  refine lpO3 (fun (u v j : Int) => [some (vr 22), some (vi r), some (vi u), some (vi v), some (vi j)]) (fun _ _ _ => σ) (fun _ v j => 0 ≤ j ∧ j ≤ 64 ∧ v = sm (fun k => σ 23 k) j.toNat) (fun _ _ j => (64 - j).toNat) ?_ (-1) 0 0 ⟨by omega, by omega, rfl⟩
  rintro u v j ⟨j1, j2, v1⟩ ih
  refine ok_iload 6 rfl rfl rfl (ok_aload_n 7 rfl rfl rfl (ok_getI 8 rfl rfl fl_X3_28 rfl rfl (Or.inl rfl) (ok_icmp_ge 9 47 rfl rfl rfl (fun h13 => ?_) (fun h13 => ?_))))
  · refine ok_iload_n 29 rfl rfl rfl (ok_iret 30 rfl rfl rfl ?_)
    exact ⟨_, rfl, rfl, trivial⟩
  · have w := mi_bd h j1 (by omega)
    have e := sm_s (fun k => σ 23 k) (j := j) j1
    refine ok_iload_n 10 rfl rfl rfl (ok_aload_n 11 rfl rfl rfl (ok_getR 12 rfl rfl fl_X3_9 rfl rfl (ok_iload 13 rfl rfl rfl (ok_iald 14 rfl rfl rfl (by first | omega | (simp [up_if]; omega) | (simp [up_if] at *; omega)) (ok_iadd 15 rfl rfl (by first | omega | (simp [up_if]; omega) | (simp [up_if] at *; omega)) (ok_ist3 16 rfl rfl rfl (ok_aload_n 17 rfl rfl rfl (ok_iload 18 rfl rfl rfl (ok_iload_n 19 rfl rfl rfl (ok_callVI (M' := M_Mi_machineOf) (as := [_, _]) 20 rfl rfl ml_X3_63 (s_Mi_machineOf h ⟨by omega, by omega⟩ hr) rfl rfl (Nat.le_of_ble_eq_true rfl) ⟨Nat.le_of_ble_eq_true rfl, Nat.le_of_ble_eq_true rfl⟩ rfl (Nat.le_of_ble_eq_true rfl) (fun σ' z1 x1 => ?_)))))))))))
    obtain ⟨hs_, x1⟩ := x1
    rw [hs_]; clear hs_ σ'
    refine ok_iconst 21 rfl rfl (by decide) (ok_icmp_eq 22 41 rfl rfl rfl (fun h34 => ?_) (fun h34 => ?_))
    · refine ok_inc4 27 rfl rfl rfl (by first | omega | (simp [up_if]; omega) | (simp [up_if] at *; omega)) (ok_goto 28 7 rfl rfl rfl ?_)
      exact ih _ _ (j + 1) ⟨by omega, by omega, by omega⟩ (by omega)
    · refine ok_iload_n 23 rfl rfl rfl (ok_iconst 24 rfl rfl (by decide) (ok_isub 25 rfl rfl (by first | omega | (simp [up_if]; omega) | (simp [up_if] at *; omega)) (ok_ist2 26 rfl rfl rfl (ok_inc4 27 rfl rfl rfl (by first | omega | (simp [up_if]; omega) | (simp [up_if] at *; omega)) (ok_goto 28 7 rfl rfl rfl ?_)))))
      exact ih _ _ (j + 1) ⟨by omega, by omega, by omega⟩ (by omega)
theorem s_Mi_countPieces {σ : eS} {r : Int} (h : iMi σ) (hr : 0 ≤ r ∧ r < 8) : MtI shA M_Mi_countPieces [vr 22, vi r] σ (fun σ' _ => σ' = σ ∧ True) := by
  refine Mt.of okM_Mi_countPieces (Nat.le_of_ble_eq_true rfl) (fun hk hg => ?_)
  obtain ⟨⟨h1, h2, h3, h4, h5, h6, h7⟩, a, b, d⟩ := id h
  refine ok_iconst 0 rfl rfl (by decide) (ok_ist2 1 rfl rfl rfl (ok_iconst 2 rfl rfl (by decide) (ok_ist3 3 rfl rfl rfl ?_)))
  refine lpO2 (fun (v j : Int) => [some (vr 22), some (vi r), some (vi v), some (vi j)]) (fun _ _ => σ) (fun v j => 0 ≤ j ∧ j ≤ 64 ∧ 0 ≤ v ∧ v ≤ j) (fun _ j => (64 - j).toNat) ?_ 0 0 ⟨by omega, by omega, by omega, by omega⟩
  rintro v j ⟨j1, j2, v1, v2⟩ ih
  refine ok_iload_n 4 rfl rfl rfl (ok_aload_n 5 rfl rfl rfl (ok_getI 6 rfl rfl fl_X3_28 rfl rfl (Or.inl rfl) (ok_icmp_ge 7 31 rfl rfl rfl (fun h9 => ?_) (fun h9 => ?_))))
  · refine ok_iload_n 17 rfl rfl rfl (ok_iret 18 rfl rfl rfl ?_)
    exact ⟨_, rfl, rfl, trivial⟩
  · refine ok_aload_n 8 rfl rfl rfl (ok_iload_n 9 rfl rfl rfl (ok_iload_n 10 rfl rfl rfl (ok_callVI (M' := M_Mi_machineOf) (as := [_, _]) 11 rfl rfl ml_X3_63 (s_Mi_machineOf h ⟨by omega, by omega⟩ hr) rfl rfl (Nat.le_of_ble_eq_true rfl) ⟨Nat.le_of_ble_eq_true rfl, Nat.le_of_ble_eq_true rfl⟩ rfl (Nat.le_of_ble_eq_true rfl) (fun σ' z1 x1 => ?_))))
    obtain ⟨hs_, x1⟩ := x1
    rw [hs_]; clear hs_ σ'
    refine ok_iconst 12 rfl rfl (by decide) (ok_icmp_eq 13 25 rfl rfl rfl (fun h19 => ?_) (fun h19 => ?_))
    · refine ok_inc3 15 rfl rfl rfl (by first | omega | (simp [up_if]; omega) | (simp [up_if] at *; omega)) (ok_goto 16 4 rfl rfl rfl ?_)
      exact ih _ (j + 1) ⟨by omega, by omega, by omega, by omega⟩ (by omega)
    · refine ok_inc2 14 rfl rfl rfl (by first | omega | (simp [up_if]; omega) | (simp [up_if] at *; omega)) (ok_inc3 15 rfl rfl rfl (by first | omega | (simp [up_if]; omega) | (simp [up_if] at *; omega)) (ok_goto 16 4 rfl rfl rfl ?_))
      exact ih _ (j + 1) ⟨by omega, by omega, by omega, by omega⟩ (by omega)
theorem s_Mi_countMoves {σ : eS} {r : Int} (h : iMi σ) (hr : 0 ≤ r ∧ r < 8) : MtI shA M_Mi_countMoves [vr 22, vi r] σ (fun σ' _ => σ' = σ ∧ True) := by
  refine Mt.of okM_Mi_countMoves (Nat.le_of_ble_eq_true rfl) (fun hk hg => ?_)
  obtain ⟨⟨h1, h2, h3, h4, h5, h6, h7⟩, a, b, d⟩ := id h
  refine ok_iconst 0 rfl rfl (by decide) (ok_ist2 1 rfl rfl rfl (ok_iconst 2 rfl rfl (by decide) (ok_ist3 3 rfl rfl rfl (ok_iconst 4 rfl rfl (by decide) (ok_ist4 5 rfl rfl rfl ?_)))))
  refine lpO3 (fun (v u j : Int) => [some (vr 22), some (vi r), some (vi v), some (vi u), some (vi j), none]) (fun _ _ _ => σ) (fun v _ j => 0 ≤ j ∧ j ≤ 64 ∧ 0 ≤ v ∧ v ≤ j) (fun _ _ j => (64 - j).toNat) ?_ 0 (-1) 0 ⟨by omega, by omega, by omega, by omega⟩
  rintro v u j ⟨j1, j2, v1, v2⟩ ih
  refine ok_iload 6 rfl rfl rfl (ok_aload_n 7 rfl rfl rfl (ok_getI 8 rfl rfl fl_X3_28 rfl rfl (Or.inl rfl) (ok_icmp_ge 9 54 rfl rfl rfl (fun h13 => ?_) (fun h13 => ?_))))
  · refine ok_iload_n 29 rfl rfl rfl (ok_iret 30 rfl rfl rfl ?_)
    exact ⟨_, rfl, rfl, trivial⟩
  · refine ok_aload_n 10 rfl rfl rfl (ok_iload 11 rfl rfl rfl (ok_iload_n 12 rfl rfl rfl (ok_callVI (M' := M_Mi_machineOf) (as := [_, _]) 13 rfl rfl ml_X3_63 (s_Mi_machineOf h ⟨by omega, by omega⟩ hr) rfl rfl (Nat.le_of_ble_eq_true rfl) ⟨Nat.le_of_ble_eq_true rfl, Nat.le_of_ble_eq_true rfl⟩ rfl (Nat.le_of_ble_eq_true rfl) (fun σ' z1 x1 => ?_))))
    obtain ⟨hs_, x1⟩ := x1
    rw [hs_]; clear hs_ σ'
    refine ok_ist5 14 rfl rfl rfl (ok_iload 15 rfl rfl rfl (ok_iconst 16 rfl rfl (by decide) (ok_icmp_eq 17 48 rfl rfl rfl (fun h28 => ?_) (fun h28 => ?_))))
    · refine ok_inc4 27 rfl rfl rfl (by first | omega | (simp [up_if]; omega) | (simp [up_if] at *; omega)) (ok_goto 28 7 rfl rfl rfl ?_)
      exact ok_fg [some (vr 22), some (vi r), some (vi _), some (vi _), some (vi (j + 1)), none] ⟨rfl, rfl, rfl, rfl, rfl, trivial⟩ (ih _ _ (j + 1) ⟨by omega, by omega, by omega, by omega⟩ (by omega))
    · refine ok_iload_n 18 rfl rfl rfl (ok_iconst 19 rfl rfl (by decide) (ok_icmp_eq 20 45 rfl rfl rfl (fun h33 => ?_) (fun h33 => ?_)))
      · refine ok_iload 25 rfl rfl rfl (ok_ist3 26 rfl rfl rfl (ok_inc4 27 rfl rfl rfl (by first | omega | (simp [up_if]; omega) | (simp [up_if] at *; omega)) (ok_goto 28 7 rfl rfl rfl ?_)))
        exact ok_fg [some (vr 22), some (vi r), some (vi _), some (vi _), some (vi (j + 1)), none] ⟨rfl, rfl, rfl, rfl, rfl, trivial⟩ (ih _ _ (j + 1) ⟨by omega, by omega, by omega, by omega⟩ (by omega))
      · refine ok_iload_n 21 rfl rfl rfl (ok_iload 22 rfl rfl rfl (ok_icmp_eq 23 45 rfl rfl rfl (fun h39 => ?_) (fun h39 => ?_)))
        · refine ok_iload 25 rfl rfl rfl (ok_ist3 26 rfl rfl rfl (ok_inc4 27 rfl rfl rfl (by first | omega | (simp [up_if]; omega) | (simp [up_if] at *; omega)) (ok_goto 28 7 rfl rfl rfl ?_)))
          exact ok_fg [some (vr 22), some (vi r), some (vi _), some (vi _), some (vi (j + 1)), none] ⟨rfl, rfl, rfl, rfl, rfl, trivial⟩ (ih _ _ (j + 1) ⟨by omega, by omega, by omega, by omega⟩ (by omega))
        · refine ok_inc2 24 rfl rfl rfl (by first | omega | (simp [up_if]; omega) | (simp [up_if] at *; omega)) (ok_iload 25 rfl rfl rfl (ok_ist3 26 rfl rfl rfl (ok_inc4 27 rfl rfl rfl (by first | omega | (simp [up_if]; omega) | (simp [up_if] at *; omega)) (ok_goto 28 7 rfl rfl rfl ?_))))
          exact ok_fg [some (vr 22), some (vi r), some (vi _), some (vi _), some (vi (j + 1)), none] ⟨rfl, rfl, rfl, rfl, rfl, trivial⟩ (ih _ _ (j + 1) ⟨by omega, by omega, by omega, by omega⟩ (by omega))
theorem s_Ev_job {σ : eS} {j w : Int} (h : IA σ) : MtI shA M_Ev_job [vr 0, vi j, vi w] σ (fun σ' _ => σ' = σ ∧ True) := by
  refine Mt.of okM_Ev_job (Nat.le_of_ble_eq_true rfl) (fun hk hg => ?_)
  have hm := h.2.2.2.1
  obtain ⟨⟨h1, h2, h3, h4, h5, h6, h7⟩, a, b, d⟩ := id hm
  refine ok_aload_n 0 rfl rfl rfl (ok_getR 1 rfl rfl fl_X11_48 rfl rfl (ok_iload_n 2 rfl rfl rfl (ok_callVI (M' := M_Mi_hasJob) (as := [_]) 3 rfl rfl ml_X11_300 (s_Mi_hasJob) rfl rfl (Nat.le_of_ble_eq_true rfl) ⟨Nat.le_of_ble_eq_true rfl, Nat.le_of_ble_eq_true rfl⟩ rfl (Nat.le_of_ble_eq_true rfl) (fun σ' z1 x1 => ?_))))
  obtain ⟨hs_, x1⟩ := x1
  rw [hs_]; clear hs_ σ'
  refine ok_if_ne 4 13 rfl rfl rfl (fun h8 => ?_) (fun h8 => ?_)
  · refine ok_iload_n 7 rfl rfl rfl ?_
    rcases (by omega : w = 0 ∨ w = 1 ∨ w = 2 ∨ (w < 0 ∨ 2 < w)) with q_ | q_ | q_ | q_
    · subst q_
      refine ok_tin 8 (len := 26) 40 rfl rfl (by decide) (by decide) rfl rfl ?_
      refine ok_aload_n 9 rfl rfl rfl (ok_getR 10 rfl rfl fl_X11_48 rfl rfl (ok_iload_n 11 rfl rfl rfl (ok_callVI (M' := M_Mi_lastHour) (as := [_]) 12 rfl rfl ml_X11_306 (s_Mi_lastHour hm ⟨by omega, by omega⟩) rfl rfl (Nat.le_of_ble_eq_true rfl) ⟨Nat.le_of_ble_eq_true rfl, Nat.le_of_ble_eq_true rfl⟩ rfl (Nat.le_of_ble_eq_true rfl) (fun σ' z2 x2 => ?_))))
      obtain ⟨hs_, x2⟩ := x2
      rw [hs_]; clear hs_ σ'
      refine ok_iret 13 rfl rfl rfl ?_
      exact ⟨_, rfl, rfl, trivial⟩
    · subst q_
      refine ok_tin 8 (len := 26) 49 rfl rfl (by decide) (by decide) rfl rfl ?_
      refine ok_aload_n 14 rfl rfl rfl (ok_getR 15 rfl rfl fl_X11_48 rfl rfl (ok_iload_n 16 rfl rfl rfl (ok_callVI (M' := M_Mi_countPieces) (as := [_]) 17 rfl rfl ml_X11_309 (s_Mi_countPieces hm ⟨by omega, by omega⟩) rfl rfl (Nat.le_of_ble_eq_true rfl) ⟨Nat.le_of_ble_eq_true rfl, Nat.le_of_ble_eq_true rfl⟩ rfl (Nat.le_of_ble_eq_true rfl) (fun σ' z2 x2 => ?_))))
      obtain ⟨hs_, x2⟩ := x2
      rw [hs_]; clear hs_ σ'
      refine ok_iret 18 rfl rfl rfl ?_
      exact ⟨_, rfl, rfl, trivial⟩
    · subst q_
      refine ok_tin 8 (len := 26) 58 rfl rfl (by decide) (by decide) rfl rfl ?_
      refine ok_aload_n 19 rfl rfl rfl (ok_getR 20 rfl rfl fl_X11_48 rfl rfl (ok_iload_n 21 rfl rfl rfl (ok_callVI (M' := M_Mi_countMoves) (as := [_]) 22 rfl rfl ml_X11_312 (s_Mi_countMoves hm ⟨by omega, by omega⟩) rfl rfl (Nat.le_of_ble_eq_true rfl) ⟨Nat.le_of_ble_eq_true rfl, Nat.le_of_ble_eq_true rfl⟩ rfl (Nat.le_of_ble_eq_true rfl) (fun σ' z2 x2 => ?_))))
      obtain ⟨hs_, x2⟩ := x2
      rw [hs_]; clear hs_ σ'
      refine ok_iret 23 rfl rfl rfl ?_
      exact ⟨_, rfl, rfl, trivial⟩
    · refine ok_tout 8 (len := 26) 67 rfl rfl q_ rfl ?_
      refine ok_iconst 24 rfl rfl (by decide) (ok_iret 25 rfl rfl rfl ?_)
      exact ⟨_, rfl, rfl, trivial⟩
  · refine ok_iconst 5 rfl rfl (by decide) (ok_iret 6 rfl rfl rfl ?_)
    exact ⟨_, rfl, rfl, trivial⟩
abbrev rgS1 : Nat → Int → Prop := fun c _ => c = 46 ∨ c = 47
/-- what was shown changes -/
def QAw (σ σ' : eS) : Prop := IA σ' ∧ tpS σ σ' ∧ tbS σ σ' ∧ miS σ σ' ∧ mkS 20000 σ σ'
end
section
/-! peelers -/
def pP (p q : Nat) : Prop := (p = 20 ∧ q = 21) ∨ (p = 30 ∧ q = 35) ∨ (p = 31 ∧ q = 36) ∨ (p = 32 ∧ q = 37) ∨ (p = 33 ∧ q = 38) ∨ (p = 34 ∧ q = 39)
theorem sP {p q : Nat} (h : pP p q) : nth shA p = some (0, 3, [16 + 3, q + 3, 0, 0, 0, 0]) := by rcases h with ⟨a, b⟩ | ⟨a, b⟩ | ⟨a, b⟩ | ⟨a, b⟩ | ⟨a, b⟩ | ⟨a, b⟩ <;> subst a <;> subst b <;> rfl
theorem sQ {p q : Nat} (h : pP p q) : nth shA q = some (1, 64, []) := by rcases h with ⟨a, b⟩ | ⟨a, b⟩ | ⟨a, b⟩ | ⟨a, b⟩ | ⟨a, b⟩ | ⟨a, b⟩ <;> subst b <;> rfl
theorem pP_n {p q : Nat} (h : pP p q) : ((p = 20 ∧ q = 21) ∨ (30 ≤ p ∧ p ≤ 34 ∧ 35 ≤ q ∧ q ≤ 39)) ∧ p ≠ q ∧ p < q ∧ 20 ≤ p ∧ 21 ≤ q := by unfold pP at h; omega
def iPe (σ : eS) (p q : Nat) : Prop := (0 ≤ σ p 2 ∧ σ p 2 ≤ 8) ∧ ∀ k : Int, 0 ≤ k → k < 64 → 0 ≤ σ q k
theorem iPe_cg {σ τ : eS} {p q : Nat} (h : iPe σ p q) (e : τ p 2 = σ p 2) (e2 : ∀ k, τ q k = σ q k) : iPe τ p q := by
  unfold iPe
  rw [e]
  exact ⟨h.1, fun k a b => by rw [e2]; exact h.2 k a b⟩
theorem s_Ja_fill {σ : eS} {c N : Nat} {v : Int} (hs : nth shA c = some (1, N, [])) (hN : N ≤ 400) : MtV shA M_Ja_fill [vr c, vi v] σ (fun σ' => fr (fun x _ => x = c) σ σ' ∧ ∀ k : Int, 0 ≤ k → k < N → σ' c k = v) := by
  refine Mt.of okM_Ja_fill (Nat.le_of_ble_eq_true rfl) (fun hk hg => ?_)
  refine ok_iconst 0 rfl rfl (by decide) (ok_ist2 1 rfl rfl rfl (ok_aload_n 2 rfl rfl rfl (ok_alen 3 rfl rfl hs rfl rfl (by omega) (ok_ist3 4 rfl rfl rfl ?_))))
  refine lpO2 (fun (i : Int) (_ : eS) => [some (vr c), some (vi v), some (vi i), some (vi (N : Int))]) (fun _ ρ => ρ) (fun i ρ => 0 ≤ i ∧ i ≤ N ∧ fr (fun x _ => x = c) σ ρ ∧ ∀ k, 0 ≤ k → k < i → ρ c k = v) (fun i _ => (400 - i).toNat) ?_ 0 σ ⟨by omega, by omega, fr.rf, fun k a b => by omega⟩
  rintro i ρ ⟨i1, i2, f, hv⟩ ih
  refine ok_iload_n 5 rfl rfl rfl (ok_iload_n 6 rfl rfl rfl (ok_icmp_ge 7 20 rfl rfl rfl (fun h7 => ?_) (fun h7 => ?_)))
  · refine ok_vret 14 rfl rfl rfl ?_
    exact ⟨rfl, f, fun k a b => hv k a (by omega)⟩
  · refine ok_aload_n 8 rfl rfl rfl (ok_iload_n 9 rfl rfl rfl (ok_iload_n 10 rfl rfl rfl (ok_iast 11 rfl rfl hs (by first | omega | (simp [up_if]; omega) | (simp [up_if] at *; omega)) (ok_inc2 12 rfl rfl rfl (by first | omega | (simp [up_if]; omega) | (simp [up_if] at *; omega)) (ok_goto 13 5 rfl rfl rfl ?_)))))
    refine ih (i + 1) _ ⟨by omega, by omega, fr_up f rfl, up_to (fun k a b => ?_) (up_same _ _ _ _)⟩ (by omega)
    rw [up_nk _ _ _ _ (by omega)]
    exact hv k a b
theorem fr_cp {P : Nat → Int → Prop} {σ : eS} {c0 c1 : Nat} {sp dp n : Int} (h : ∀ k, dp ≤ k → k < dp + n → P c1 k) : fr P σ (cp σ c0 sp c1 dp n) := fun c k q => by
  unfold cp
  rw [if_neg]
  intro w
  exact q (by rw [w.1]; exact h k w.2.1 w.2.2)
abbrev rgP0 (p q : Nat) : Nat → Int → Prop := fun c k => (c = p ∧ 2 ≤ k ∧ k ≤ 5) ∨ c = q
theorem s_Pe_startTable {σ : eS} {p q t : Nat} (hp : pP p q) (ht : tA t) (hT : iT σ t) : MtV shA M_Pe_startTable [vr p, vr t] σ (fun σ' => fr (rgP0 p q) σ σ' ∧ iPe σ' p q ∧ σ' p 2 = σ t 1 ∧ σ' p 3 = σ t 3) := by
  refine Mt.of okM_Pe_startTable (Nat.le_of_ble_eq_true rfl) (fun hk hg => ?_)
  obtain ⟨n0, n1, n2, n3, n4⟩ := pP_n hp
  have nA := tA_10 ht
  obtain ⟨τ, eτ⟩ : ∃ τ, τ = cp σ (t + 4) 0 q 0 64 := ⟨_, rfl⟩
  have f : fr (fun c _ => c = q) σ τ := by rw [eτ]; exact fr_cp (fun k _ _ => rfl)
  have e : ∀ k, 0 ≤ k → k < 64 → τ q k = σ (t + 4) k := fun k a b => by rw [eτ]; unfold cp; rw [if_pos ⟨rfl, by omega, by omega⟩]; congr 1; omega
  have e1 : τ t 1 = σ t 1 := f t 1 (by omega)
  have e3 : τ t 3 = σ t 3 := f t 3 (by omega)
  refine ok_aload_n 0 rfl rfl rfl (ok_getR 1 rfl rfl fl_X5_32 (sT ht) rfl (ok_iconst 2 rfl rfl (by decide) (ok_aload_n 3 rfl rfl rfl (ok_getR 4 rfl rfl fl_X5_9 (sP hp) rfl (ok_iconst 5 rfl rfl (by decide) (ok_bipush 6 rfl rfl (by decide) (by decide) (ok_copy 7 rfl rfl (wd3 104 rfl rfl) ⟨Nat.le_of_ble_eq_true rfl, Nat.le_of_ble_eq_true rfl⟩ (sC ht) (sQ hp) (by decide) (by decide) (by decide) (by decide) (by decide) ?_)))))))
  rw [← eτ]
  refine ok_aload_n 8 rfl rfl rfl (ok_aload_n 9 rfl rfl rfl (ok_getI 10 rfl rfl fl_X5_41 (sT ht) rfl (Or.inl rfl) (ok_putI 11 rfl rfl fl_X5_15 (sP hp) rfl rfl rfl (ok_aload_n 12 rfl rfl rfl (ok_aload_n 13 rfl rfl rfl (ok_getI 14 rfl rfl fl_X5_42 (sT ht) rfl (Or.inl rfl) (ok_putI 15 rfl rfl fl_X5_19 (sP hp) rfl rfl rfl (ok_aload_n 16 rfl rfl rfl (ok_iconst 17 rfl rfl (by decide) (ok_putI 18 rfl rfl fl_X5_22 (sP hp) rfl rfl rfl (ok_vret 19 rfl rfl rfl ?_)))))))))))
  refine ⟨rfl, fr_up (fr_up (fr_up (f.mono (fun c k w => Or.inr w)) (by simp [rgP0])) (by simp [rgP0])) (by simp [rgP0]), ⟨?_, fun k a b => ?_⟩, ?_, ?_⟩
  · rw [up_nk _ _ _ _ (by decide), up_nk _ _ _ _ (by decide), up_same, e1]; exact ⟨hT.1, hT.2.1⟩
  · rw [up_ne _ _ _ _ (Ne.symm n1), up_ne _ _ _ _ (Ne.symm n1), up_ne _ _ _ _ (Ne.symm n1), e k a b]; exact (hT.2.2.2 k a b).1
  · rw [up_nk _ _ _ _ (by decide), up_nk _ _ _ _ (by decide), up_same, e1]
  · rw [up_nk _ _ _ _ (by decide), up_same, up_ne _ _ _ _ (by omega), e3]
theorem s_Pe_startLike {σ : eS} {p q p' q' : Nat} (hp : pP p q) (hp' : pP p' q') (hne : p' ≠ p) (hne2 : q' ≠ q) (h : iPe σ p' q') : MtV shA M_Pe_startLike [vr p, vr p'] σ (fun σ' => fr (rgP0 p q) σ σ' ∧ iPe σ' p q ∧ σ' p 2 = σ p' 2 ∧ σ' p 3 = σ p' 3) := by
  refine Mt.of okM_Pe_startLike (Nat.le_of_ble_eq_true rfl) (fun hk hg => ?_)
  obtain ⟨n0, n1, n2, n3, n4⟩ := pP_n hp
  obtain ⟨m0, m1, m2, m3, m4⟩ := pP_n hp'
  obtain ⟨τ, eτ⟩ : ∃ τ, τ = cp σ q' 0 q 0 64 := ⟨_, rfl⟩
  have f : fr (fun c _ => c = q) σ τ := by rw [eτ]; exact fr_cp (fun k _ _ => rfl)
  have e : ∀ k, 0 ≤ k → k < 64 → τ q k = σ q' k := fun k a b => by rw [eτ]; unfold cp; rw [if_pos ⟨rfl, by omega, by omega⟩]; congr 1; omega
  have e1 : τ p' 2 = σ p' 2 := f p' 2 (by omega)
  have e3 : τ p' 3 = σ p' 3 := f p' 3 (by omega)
  refine ok_aload_n 0 rfl rfl rfl (ok_getR 1 rfl rfl fl_X5_9 (sP hp') rfl (ok_iconst 2 rfl rfl (by decide) (ok_aload_n 3 rfl rfl rfl (ok_getR 4 rfl rfl fl_X5_9 (sP hp) rfl (ok_iconst 5 rfl rfl (by decide) (ok_bipush 6 rfl rfl (by decide) (by decide) (ok_copy 7 rfl rfl (wd3 104 rfl rfl) ⟨Nat.le_of_ble_eq_true rfl, Nat.le_of_ble_eq_true rfl⟩ (sQ hp') (sQ hp) (by decide) (by decide) (by decide) (by decide) (by decide) ?_)))))))
  rw [← eτ]
  refine ok_aload_n 8 rfl rfl rfl (ok_aload_n 9 rfl rfl rfl (ok_getI 10 rfl rfl fl_X5_15 (sP hp') rfl (Or.inl rfl) (ok_putI 11 rfl rfl fl_X5_15 (sP hp) rfl rfl rfl (ok_aload_n 12 rfl rfl rfl (ok_aload_n 13 rfl rfl rfl (ok_getI 14 rfl rfl fl_X5_19 (sP hp') rfl (Or.inl rfl) (ok_putI 15 rfl rfl fl_X5_19 (sP hp) rfl rfl rfl (ok_aload_n 16 rfl rfl rfl (ok_aload_n 17 rfl rfl rfl (ok_getI 18 rfl rfl fl_X5_22 (sP hp') rfl (Or.inl rfl) (ok_putI 19 rfl rfl fl_X5_22 (sP hp) rfl rfl rfl (ok_vret 20 rfl rfl rfl ?_))))))))))))
  refine ⟨rfl, fr_up (fr_up (fr_up (f.mono (fun c k w => Or.inr w)) (by simp [rgP0])) (by simp [rgP0])) (by simp [rgP0]), ⟨?_, fun k a b => ?_⟩, ?_, ?_⟩
  · rw [up_nk _ _ _ _ (by decide), up_nk _ _ _ _ (by decide), up_same, e1]; exact h.1
  · rw [up_ne _ _ _ _ (Ne.symm n1), up_ne _ _ _ _ (Ne.symm n1), up_ne _ _ _ _ (Ne.symm n1), e k a b]; exact h.2 k a b
  · rw [up_nk _ _ _ _ (by decide), up_nk _ _ _ _ (by decide), up_same, e1]
  · rw [up_nk _ _ _ _ (by decide), up_same, up_ne _ _ _ _ hne, e3]
theorem s_Pe_leastPlace {σ : eS} {p q : Nat} (hp : pP p q) (h : iPe σ p q) : MtI shA M_Pe_leastPlace [vr p] σ (fun σ' z => σ' = σ ∧ 0 ≤ z ∧ z < 64) := by
  refine Mt.of okM_Pe_leastPlace (Nat.le_of_ble_eq_true rfl) (fun hk hg => ?_)
  have n1 := h.1.1
  have n2 := h.1.2
  refine ok_iconst 0 rfl rfl (by decide) (ok_ist1 1 rfl rfl rfl (ok_aload_n 2 rfl rfl rfl (ok_getI 3 rfl rfl fl_X5_19 (sP hp) rfl (Or.inl rfl) (ok_iconst 4 rfl rfl (by decide) (ok_iaddW 5 rfl rfl (ok_ist2 6 rfl rfl rfl (ok_iconst 7 rfl rfl (by decide) (ok_ist3 8 rfl rfl rfl ?_))))))))
  refine lpO3 (fun v l i : Int => [some (vr p), some (vi v), some (vi l), some (vi i), none, none]) (fun _ _ _ => σ) (fun v _ i => 0 ≤ i ∧ i ≤ 8 ∧ 0 ≤ v ∧ v < 64) (fun _ _ i => (8 - i).toNat) ?_ 0 _ 0 ⟨by omega, by omega, by omega, by omega⟩
  rintro v l i ⟨i1, i2, v1, v2⟩ ih
  refine ok_iload_n 9 rfl rfl rfl (ok_aload_n 10 rfl rfl rfl (ok_getI 11 rfl rfl fl_X5_15 (sP hp) rfl (Or.inl rfl) (ok_icmp_ge 12 79 rfl rfl rfl (fun h16 => ?_) (fun h16 => ?_))))
  · refine ok_iload_n 45 rfl rfl rfl (ok_iret 46 rfl rfl rfl ?_)
    exact ⟨_, rfl, rfl, v1, v2⟩
  · refine ok_iconst 13 rfl rfl (by decide) (ok_ist4 14 rfl rfl rfl ?_)
    refine lpO3 (fun v l j : Int => [some (vr p), some (vi v), some (vi l), some (vi i), some (vi j), none]) (fun _ _ _ => σ) (fun v _ j => 0 ≤ j ∧ j ≤ 8 ∧ 0 ≤ v ∧ v < 64) (fun _ _ j => (8 - j).toNat) ?_ v l 0 ⟨by omega, by omega, v1, v2⟩
    clear v1 v2 l v
    rintro v l j ⟨j1, j2, v1, v2⟩ ih2
    refine ok_iload 15 rfl rfl rfl (ok_aload_n 16 rfl rfl rfl (ok_getI 17 rfl rfl fl_X5_15 (sP hp) rfl (Or.inl rfl) (ok_icmp_ge 18 73 rfl rfl rfl (fun h28 => ?_) (fun h28 => ?_))))
    · refine ok_inc3 43 rfl rfl rfl (by first | omega | (simp [up_if]; omega) | (simp [up_if] at *; omega)) (ok_goto 44 11 rfl rfl rfl ?_)
      exact ok_fg [some (vr p), some (vi _), some (vi _), some (vi (i + 1)), none, none] ⟨rfl, rfl, rfl, rfl, trivial⟩ (ih _ _ (i + 1) ⟨by omega, by omega, v1, v2⟩ (by omega))
    · refine ok_aload_n 19 rfl rfl rfl (ok_getR 20 rfl rfl fl_X5_9 (sP hp) rfl (ok_iload_n 21 rfl rfl rfl (ok_bipush 22 rfl rfl (by decide) (by decide) (ok_imul 23 rfl rfl (by first | omega | (simp [up_if]; omega) | (simp [up_if] at *; omega)) (ok_iload 24 rfl rfl rfl (ok_iadd 25 rfl rfl (by first | omega | (simp [up_if]; omega) | (simp [up_if] at *; omega)) (ok_iald 26 rfl rfl (sQ hp) (by first | omega | (simp [up_if]; omega) | (simp [up_if] at *; omega)) (ok_ist5 27 rfl rfl rfl (ok_iload 28 rfl rfl rfl (ok_if_le 29 67 rfl rfl rfl (fun h47 => ?_) (fun h47 => ?_)))))))))))
      · refine ok_inc4 41 rfl rfl rfl (by first | omega | (simp [up_if]; omega) | (simp [up_if] at *; omega)) (ok_goto 42 22 rfl rfl rfl ?_)
        exact ok_fg [some (vr p), some (vi _), some (vi _), some (vi i), some (vi (j + 1)), none] ⟨rfl, rfl, rfl, rfl, rfl, trivial⟩ (ih2 _ _ (j + 1) ⟨by omega, by omega, by omega, by omega⟩ (by omega))
      · refine ok_iload 30 rfl rfl rfl (ok_iload_n 31 rfl rfl rfl (ok_icmp_ge 32 67 rfl rfl rfl (fun h53 => ?_) (fun h53 => ?_)))
        · refine ok_inc4 41 rfl rfl rfl (by first | omega | (simp [up_if]; omega) | (simp [up_if] at *; omega)) (ok_goto 42 22 rfl rfl rfl ?_)
          exact ok_fg [some (vr p), some (vi _), some (vi _), some (vi i), some (vi (j + 1)), none] ⟨rfl, rfl, rfl, rfl, rfl, trivial⟩ (ih2 _ _ (j + 1) ⟨by omega, by omega, by omega, by omega⟩ (by omega))
        · refine ok_iload 33 rfl rfl rfl (ok_ist2 34 rfl rfl rfl (ok_iload_n 35 rfl rfl rfl (ok_bipush 36 rfl rfl (by decide) (by decide) (ok_imul 37 rfl rfl (by first | omega | (simp [up_if]; omega) | (simp [up_if] at *; omega)) (ok_iload 38 rfl rfl rfl (ok_iadd 39 rfl rfl (by first | omega | (simp [up_if]; omega) | (simp [up_if] at *; omega)) (ok_ist1 40 rfl rfl rfl (ok_inc4 41 rfl rfl rfl (by first | omega | (simp [up_if]; omega) | (simp [up_if] at *; omega)) (ok_goto 42 22 rfl rfl rfl ?_)))))))))
          exact ok_fg [some (vr p), some (vi _), some (vi _), some (vi i), some (vi (j + 1)), none] ⟨rfl, rfl, rfl, rfl, rfl, trivial⟩ (ih2 _ _ (j + 1) ⟨by omega, by omega, by omega, by omega⟩ (by omega))
theorem s_Pe_choose {σ : eS} {p q : Nat} {r : Int} (hp : pP p q) (h : iPe σ p q) (hC : iCh σ) : MtI shA M_Pe_choose [vr p, vi r] σ (fun σ' z => fr rgCh σ σ' ∧ iCh σ' ∧ (z = 0 ∨ z = 1) ∧ mkS 1 σ σ') := by
  refine Mt.of okM_Pe_choose (Nat.le_of_ble_eq_true rfl) (fun hk hg => ?_)
  obtain ⟨n0, n1, n2, n3, n4⟩ := pP_n hp
  have hn := h.1
  refine ok_aload_n 0 rfl rfl rfl (ok_getR 1 rfl rfl fl_X5_9 (sP hp) rfl (ok_aload_n 2 rfl rfl rfl (ok_getI 3 rfl rfl fl_X5_15 (sP hp) rfl (Or.inl rfl) (ok_iconst 4 rfl rfl (by decide) (ok_callSL (M' := M_Jo_of) (as := [_, _, _]) 5 rfl rfl ml_X5_77 (s_Jo_of (sQ hp) hn.2) ⟨Nat.le_of_ble_eq_true rfl, Nat.le_of_ble_eq_true rfl⟩ rfl (Nat.le_of_ble_eq_true rfl) (fun σ' J hJ => ?_))))))
  obtain ⟨hs_, hJ⟩ := hJ
  rw [hs_]; clear hs_ σ'
  refine ok_lst2 6 rfl rfl rfl (ok_iload_n 7 rfl rfl rfl ?_)
  rcases (by omega : r = 1 ∨ r = 2 ∨ r = 3 ∨ (r < 1 ∨ 3 < r)) with q_ | q_ | q_ | q_
  · subst q_
    refine ok_tin 8 (len := 26) 40 rfl rfl (by decide) (by decide) rfl rfl ?_
    refine ok_aload_n 9 rfl rfl rfl (ok_getR 10 rfl rfl fl_X5_28 (sP hp) rfl (ok_aload_n 11 rfl rfl rfl (ok_getR 12 rfl rfl fl_X5_9 (sP hp) rfl (ok_lload_n 13 rfl rfl rfl (ok_aload_n 14 rfl rfl rfl (ok_getI 15 rfl rfl fl_X5_15 (sP hp) rfl (Or.inl rfl) (ok_callVL (M' := M_Ch_greatestLeast) (as := [_, _, _]) 16 rfl rfl ml_X5_83 (s_Ch_greatestLeast (sQ hp) hn) rfl rfl (Nat.le_of_ble_eq_true rfl) ⟨Nat.le_of_ble_eq_true rfl, Nat.le_of_ble_eq_true rfl⟩ rfl (Nat.le_of_ble_eq_true rfl) (fun τ g f => ?_))))))))
    have f0 : fr rgCh σ τ := f.mono (fun c k w => by simp only [rgCh]; omega)
    have hC0 : iCh τ := iCh_cg hC (fun k => f _ _ (by simp))
    have hn0 : τ p 2 = σ p 2 := f _ _ (by omega)
    have m0 : mkS 0 σ τ := mkS_fr (by decide) f (by omega) (fun k => by omega)
    refine ok_l2iW 17 rfl rfl (ok_ist4 18 rfl rfl rfl (ok_iload 19 rfl rfl rfl (ok_if_le 20 95 rfl rfl rfl (fun h61 => ?_) (fun h61 => ?_))))
    · refine ok_iconst 35 rfl rfl (by decide) (ok_zret 36 rfl rfl rfl (by first | omega | (simp [up_if]; omega) | (simp [up_if] at *; omega)) ?_)
      exact ⟨_, rfl, f0, hC0, Or.inl rfl, m0.mono (by decide)⟩
    · refine ok_aload_n 21 rfl rfl rfl (ok_getR 22 rfl rfl fl_X5_28 (sP hp) rfl (ok_aload_n 23 rfl rfl rfl (ok_getR 24 rfl rfl fl_X5_9 (sP hp) rfl (ok_aload_n 25 rfl rfl rfl (ok_getI 26 rfl rfl fl_X5_15 (sP hp) rfl (Or.inl rfl) (ok_iload 27 rfl rfl rfl (ok_callSL (M' := M_Jo_of) (as := [_, _, _]) 28 rfl rfl ml_X5_77 (s_Jo_of (sQ hp) (by omega)) ⟨Nat.le_of_ble_eq_true rfl, Nat.le_of_ble_eq_true rfl⟩ rfl (Nat.le_of_ble_eq_true rfl) (fun σ' J2 hJ2 => ?_))))))))
      obtain ⟨hs_, hJ2⟩ := hJ2
      rw [hs_]; clear hs_ σ'
      refine ok_aload_n 29 rfl rfl rfl (ok_getI 30 rfl rfl fl_X5_15 (sP hp) rfl (Or.inl rfl) (ok_callVI (M' := M_Ch_findFirst) (as := [_, _]) 31 rfl rfl ml_X5_87 (s_Ch_findFirst hC0 ⟨by omega, by omega⟩) rfl rfl (Nat.le_of_ble_eq_true rfl) ⟨Nat.le_of_ble_eq_true rfl, Nat.le_of_ble_eq_true rfl⟩ rfl (Nat.le_of_ble_eq_true rfl) (fun τ2 z2 f2 => ?_)))
      refine ok_if_eq 32 95 rfl rfl rfl (fun h88 => ?_) (fun h88 => ?_)
      · refine ok_iconst 35 rfl rfl (by decide) (ok_zret 36 rfl rfl rfl (by first | omega | (simp [up_if]; omega) | (simp [up_if] at *; omega)) ?_)
        exact ⟨_, rfl, f0.tr f2.1, f2.2.1, by omega, (m0.tr f2.2.2.2 (by decide) (by decide)).mono (by decide)⟩
      · refine ok_iconst 33 rfl rfl (by decide) (ok_goto 34 96 rfl rfl rfl (ok_zret 36 rfl rfl rfl (by first | omega | (simp [up_if]; omega) | (simp [up_if] at *; omega)) ?_))
        exact ⟨_, rfl, f0.tr f2.1, f2.2.1, by omega, (m0.tr f2.2.2.2 (by decide) (by decide)).mono (by decide)⟩
  · subst q_
    refine ok_tin 8 (len := 26) 97 rfl rfl (by decide) (by decide) rfl rfl ?_
    refine ok_aload_n 37 rfl rfl rfl (ok_callVI (M' := M_Pe_leastPlace) (as := []) 38 rfl rfl ml_X5_91 (s_Pe_leastPlace hp h) (sP hp) rfl (Nat.le_of_ble_eq_true rfl) ⟨Nat.le_of_ble_eq_true rfl, Nat.le_of_ble_eq_true rfl⟩ rfl (Nat.le_of_ble_eq_true rfl) (fun σ' k hk1 => ?_))
    obtain ⟨hs_, hk1⟩ := hk1
    rw [hs_]; clear hs_ σ'
    refine ok_ist5 39 rfl rfl rfl (ok_aload_n 40 rfl rfl rfl (ok_getR 41 rfl rfl fl_X5_28 (sP hp) rfl (ok_lload_n 42 rfl rfl rfl (ok_iload 43 rfl rfl rfl (ok_bipush 44 rfl rfl (by decide) (by decide) (ok_idiv 45 rfl rfl (by first | omega | (simp [up_if]; omega) | (simp [up_if] at *; omega)) (by first | omega | (simp [up_if]; omega) | (simp [up_if] at *; omega)) (ok_iload 46 rfl rfl rfl (ok_bipush 47 rfl rfl (by decide) (by decide) (ok_irem 48 rfl rfl (by first | omega | (simp [up_if]; omega) | (simp [up_if] at *; omega)) (by first | omega | (simp [up_if]; omega) | (simp [up_if] at *; omega)) (ok_callSL (M' := M_Jo_through) (as := [_, _, _]) 49 rfl rfl ml_X5_94 (s_Jo_through) ⟨Nat.le_of_ble_eq_true rfl, Nat.le_of_ble_eq_true rfl⟩ rfl (Nat.le_of_ble_eq_true rfl) (fun σ' J3 hJ3 => ?_)))))))))))
    obtain ⟨hs_, hJ3⟩ := hJ3
    rw [hs_]; clear hs_ σ'
    refine ok_aload_n 50 rfl rfl rfl (ok_getI 51 rfl rfl fl_X5_15 (sP hp) rfl (Or.inl rfl) (ok_callVI (M' := M_Ch_findFirst) (as := [_, _]) 52 rfl rfl ml_X5_87 (s_Ch_findFirst hC hn) rfl rfl (Nat.le_of_ble_eq_true rfl) ⟨Nat.le_of_ble_eq_true rfl, Nat.le_of_ble_eq_true rfl⟩ rfl (Nat.le_of_ble_eq_true rfl) (fun τ2 z2 f2 => ?_)))
    refine ok_zret 53 rfl rfl rfl f2.2.2.1 ?_
    exact ⟨_, rfl, f2⟩
  · subst q_
    refine ok_tin 8 (len := 26) 129 rfl rfl (by decide) (by decide) rfl rfl ?_
    refine ok_aload_n 54 rfl rfl rfl (ok_getR 55 rfl rfl fl_X5_28 (sP hp) rfl (ok_aload_n 56 rfl rfl rfl (ok_getR 57 rfl rfl fl_X5_9 (sP hp) rfl (ok_lload_n 58 rfl rfl rfl (ok_aload_n 59 rfl rfl rfl (ok_getI 60 rfl rfl fl_X5_15 (sP hp) rfl (Or.inl rfl) (ok_callVL (M' := M_Ch_findRichest) (as := [_, _, _]) 61 rfl rfl ml_X5_98 (s_Ch_findRichest (sQ hp) hC hn) rfl rfl (Nat.le_of_ble_eq_true rfl) ⟨Nat.le_of_ble_eq_true rfl, Nat.le_of_ble_eq_true rfl⟩ rfl (Nat.le_of_ble_eq_true rfl) (fun τ2 z2 f2 => ?_))))))))
    refine ok_ldc2 62 (-1) rfl rfl kc_X5_101 (by decide) (ok_lcmp_eq 63 64 156 rfl rfl rfl rfl rfl (fun h148 => ?_) (fun h148 => ?_))
    · refine ok_iconst 67 rfl rfl (by decide) (ok_zret 68 rfl rfl rfl (by first | omega | (simp [up_if]; omega) | (simp [up_if] at *; omega)) ?_)
      exact ⟨_, rfl, f2.1, f2.2.1, by omega, f2.2.2.mono (by decide)⟩
    · refine ok_iconst 65 rfl rfl (by decide) (ok_goto 66 157 rfl rfl rfl (ok_zret 68 rfl rfl rfl (by first | omega | (simp [up_if]; omega) | (simp [up_if] at *; omega)) ?_))
      exact ⟨_, rfl, f2.1, f2.2.1, by omega, f2.2.2.mono (by decide)⟩
  · refine ok_tout 8 (len := 26) 158 rfl rfl q_ rfl ?_
    refine ok_aload_n 69 rfl rfl rfl (ok_getR 70 rfl rfl fl_X5_28 (sP hp) rfl (ok_lload_n 71 rfl rfl rfl (ok_aload_n 72 rfl rfl rfl (ok_getI 73 rfl rfl fl_X5_15 (sP hp) rfl (Or.inl rfl) (ok_callVI (M' := M_Ch_findFirst) (as := [_, _]) 74 rfl rfl ml_X5_87 (s_Ch_findFirst hC hn) rfl rfl (Nat.le_of_ble_eq_true rfl) ⟨Nat.le_of_ble_eq_true rfl, Nat.le_of_ble_eq_true rfl⟩ rfl (Nat.le_of_ble_eq_true rfl) (fun τ2 z2 f2 => ?_))))))
    refine ok_zret 75 rfl rfl rfl f2.2.2.1 ?_
    exact ⟨_, rfl, f2⟩
theorem s_Pe_choiceNumber {σ : eS} {p q : Nat} (hp : pP p q) (h : iPe σ p q) : MtI shA M_Pe_choiceNumber [vr p] σ (fun σ' _ => σ' = σ ∧ True) := by
  refine Mt.of okM_Pe_choiceNumber (Nat.le_of_ble_eq_true rfl) (fun hk hg => ?_)
  have n1 := h.1.1
  have n2 := h.1.2
  refine ok_iconst 0 rfl rfl (by decide) (ok_ist1 1 rfl rfl rfl (ok_iconst 2 rfl rfl (by decide) (ok_ist2 3 rfl rfl rfl ?_)))
  refine lpO2 (fun v i : Int => [some (vr p), some (vi v), some (vi i)]) (fun _ _ => σ) (fun _ i => 0 ≤ i ∧ i ≤ 8) (fun _ i => (8 - i).toNat) ?_ 0 0 ⟨by omega, by omega⟩
  rintro v i ⟨i1, i2⟩ ih
  refine ok_iload_n 4 rfl rfl rfl (ok_aload_n 5 rfl rfl rfl (ok_getI 6 rfl rfl fl_X5_15 (sP hp) rfl (Or.inl rfl) (ok_icmp_ge 7 33 rfl rfl rfl (fun h9 => ?_) (fun h9 => ?_))))
  · refine ok_iload_n 20 rfl rfl rfl (ok_iret 21 rfl rfl rfl ?_)
    exact ⟨_, rfl, rfl, trivial⟩
  · refine ok_iload_n 8 rfl rfl rfl (ok_bipush 9 rfl rfl (by decide) (by decide) (ok_imulW 10 rfl rfl (ok_aload_n 11 rfl rfl rfl (ok_getR 12 rfl rfl fl_X5_28 (sP hp) rfl (ok_getR 13 rfl rfl fl_X5_66 rfl rfl (ok_iload_n 14 rfl rfl rfl (ok_iald 15 rfl rfl rfl (by first | omega | (simp [up_if]; omega) | (simp [up_if] at *; omega)) (ok_iaddW 16 rfl rfl (ok_ist1 17 rfl rfl rfl (ok_inc2 18 rfl rfl rfl (by first | omega | (simp [up_if]; omega) | (simp [up_if] at *; omega)) (ok_goto 19 4 rfl rfl rfl ?_)))))))))))
    exact ih _ (i + 1) ⟨by omega, by omega⟩ (by omega)
abbrev rgPe (p q : Nat) : Nat → Int → Prop := fun c k => (c = p ∧ 3 ≤ k ∧ k ≤ 5) ∨ c = q ∨ c = 16 ∨ c = 17 ∨ c = 18 ∨ c = 19
def QTk (p q : Nat) (σ σ' : eS) : Prop := fr (rgPe p q) σ σ' ∧ iPe σ' p q ∧ iCh σ' ∧ 0 ≤ σ' p 3 ∧ 0 ≤ σ' p 5 ∧ σ' p 3 + σ' p 5 ≤ max 0 (σ p 3) ∧ mkS 1 σ σ'
theorem s_Pe_takePart {σ : eS} {p q : Nat} {r : Int} (hp : pP p q) (h : iPe σ p q) (hC : iCh σ) : MtV shA M_Pe_takePart [vr p, vi r] σ (fun σ' => QTk p q σ σ') := by
  refine Mt.of okM_Pe_takePart (Nat.le_of_ble_eq_true rfl) (fun hk hg => ?_)
  obtain ⟨n0, n1, n2, n3, n4⟩ := pP_n hp
  obtain ⟨σ1, e1⟩ : ∃ τ, τ = up σ p 5 0 := ⟨_, rfl⟩
  have f1 : fr (rgPe p q) σ σ1 := by rw [e1]; exact fr_up fr.rf (by simp [rgPe])
  have h1 : iPe σ1 p q := iPe_cg h (by rw [e1]; exact up_nk _ _ _ _ (by decide)) (fun k => by rw [e1]; exact up_ne _ _ _ _ (by omega))
  have hC1 : iCh σ1 := iCh_cg hC (fun k => by rw [e1]; exact up_ne _ _ _ _ (by omega))
  have el : σ1 p 3 = σ p 3 := by rw [e1]; exact up_nk _ _ _ _ (by decide)
  have ew : σ1 p 5 = 0 := by rw [e1]; exact up_same _ _ _ _
  have m1 : mkS 0 σ σ1 := by rw [e1]; exact mkS_cg (by decide) (up_ne _ _ _ _ (by omega)) (fun k => up_ne _ _ _ _ (by omega))
  have stop0 : ∀ τ : eS, fr rgCh σ1 τ → iCh τ → mkS 1 σ1 τ → QTk p q σ (up τ p 3 0) := fun τ f hc hk => by
    have m2 : mkS 0 τ (up τ p 3 0) := mkS_cg (by decide) (up_ne _ _ _ _ (by omega)) (fun k => up_ne _ _ _ _ (by omega))
    refine ⟨fr_up (f1.tr (f.mono (fun c k w => by simp only [rgCh, rgPe] at w ⊢; omega))) (by simp [rgPe]), iPe_cg h1 ?_ (fun k => ?_), iCh_cg hc (fun k => up_ne _ _ _ _ (by omega)), ?_, ?_, ?_, ((m1.tr hk (by decide) (by decide)).tr m2 (by decide) (by decide)).mono (by decide)⟩
    · rw [up_nk _ _ _ _ (by decide)]; exact f _ _ (by simp only [rgCh]; omega)
    · rw [up_ne _ _ _ _ (by omega)]; exact f _ _ (by simp only [rgCh]; omega)
    · rw [up_same]; decide
    · rw [up_nk _ _ _ _ (by decide), f _ _ (by simp only [rgCh]; omega), ew]; decide
    · rw [up_same, up_nk _ _ _ _ (by decide), f p 5 (by simp only [rgCh]; omega), ew]; omega
  refine ok_aload_n 0 rfl rfl rfl (ok_iconst 1 rfl rfl (by decide) (ok_putI 2 rfl rfl fl_X5_25 (sP hp) rfl rfl rfl ?_))
  rw [← e1]
  refine ok_aload_n 3 rfl rfl rfl (ok_getI 4 rfl rfl fl_X5_19 (sP hp) rfl (Or.inl rfl) (ok_if_le 5 20 rfl rfl rfl (fun h9 => ?_) (fun h9 => ?_)))
  · refine ok_aload_n 10 rfl rfl rfl (ok_iconst 11 rfl rfl (by decide) (ok_putI 12 rfl rfl fl_X5_19 (sP hp) rfl rfl rfl (ok_vret 13 rfl rfl rfl ?_)))
    exact ⟨rfl, stop0 _ fr.rf hC1 (mkS_cg (by decide) rfl (fun _ => rfl))⟩
  · refine ok_aload_n 6 rfl rfl rfl (ok_iload_n 7 rfl rfl rfl (ok_callVI (M' := M_Pe_choose) (as := [_]) 8 rfl rfl ml_X5_62 (s_Pe_choose hp h1 hC1) (sP hp) rfl (Nat.le_of_ble_eq_true rfl) ⟨Nat.le_of_ble_eq_true rfl, Nat.le_of_ble_eq_true rfl⟩ rfl (Nat.le_of_ble_eq_true rfl) (fun τ z f => ?_)))
    refine ok_if_ne 9 26 rfl rfl rfl (fun h17 => ?_) (fun h17 => ?_)
    · have l0 : 0 < σ p 3 := by omega
      have hl : τ p 3 = σ p 3 := by rw [f.1 p 3 (by simp only [rgCh]; omega), el]
      have hn : τ p 2 = σ p 2 := by rw [f.1 p 2 (by simp only [rgCh]; omega), e1]; exact up_nk _ _ _ _ (by decide)
      have hq : ∀ k, 0 ≤ k → k < 64 → 0 ≤ τ q k := fun k a b => by rw [f.1 q k (by simp only [rgCh]; omega)]; exact h1.2 k a b
      have fA : fr (rgPe p q) σ τ := f1.tr (f.1.mono (fun c k w => by simp only [rgCh, rgPe] at w ⊢; omega))
      have hc := f.2.1
      have mA : mkS 1 σ τ := (m1.tr f.2.2.2 (by decide) (by decide)).mono (by decide)
      clear f h17 z h9 ew el
      have hn1 := h.1.1
      have hn2 := h.1.2
      refine ok_aload_n 14 rfl rfl rfl (ok_aload_n 15 rfl rfl rfl (ok_getI 16 rfl rfl fl_X5_19 (sP hp) rfl (Or.inl rfl) (ok_putI 17 rfl rfl fl_X5_25 (sP hp) rfl rfl rfl (ok_iconst 18 rfl rfl (by decide) (ok_ist2 19 rfl rfl rfl ?_)))))
      refine lpO2 (fun (i : Int) (_ : eS) => [some (vr p), some (vi r), some (vi i)]) (fun _ ρ => ρ) (fun i ρ => 0 ≤ i ∧ i ≤ σ p 2 ∧ fr (fun c k => c = p ∧ k = 5) τ ρ ∧ 0 ≤ ρ p 5 ∧ ρ p 5 ≤ σ p 3 ∧ ∀ k, 0 ≤ k → k < i → ρ p 5 ≤ τ q (k * 8 + τ 17 k)) (fun i _ => (8 - i).toNat) ?_ 0 _ ⟨by omega, by omega, fr_up fr.rf ⟨rfl, rfl⟩, by rw [up_same]; omega, by rw [up_same]; omega, fun k a b => by omega⟩
      rintro i ρ ⟨i1, i2, g, w1, w2, w3⟩ ih
      have g2 : ρ p 2 = σ p 2 := by rw [g p 2 (by omega), hn]
      have g17 : ∀ k, ρ 17 k = τ 17 k := fun k => g 17 k (by omega)
      have gq : ∀ k, ρ q k = τ q k := fun k => g q k (by omega)
      refine ok_iload_n 20 rfl rfl rfl (ok_aload_n 21 rfl rfl rfl (ok_getI 22 rfl rfl fl_X5_15 (sP hp) rfl (Or.inl rfl) (ok_icmp_ge 23 80 rfl rfl rfl (fun h41 => ?_) (fun h41 => ?_))))
      · refine ok_iconst 43 rfl rfl (by decide) (ok_ist2 44 rfl rfl rfl ?_)
        clear ih
        obtain ⟨W, eW⟩ : ∃ W, W = ρ p 5 := ⟨_, rfl⟩
        rw [← eW] at w1 w2 w3
        have w4 : ∀ k, 0 ≤ k → k < σ p 2 → W ≤ ρ q (k * 8 + ρ 17 k) := fun k a b => by rw [g17, gq]; exact w3 k a (by omega)
        have c4 : ∀ k : Int, 0 ≤ k → k < σ p 2 → 0 ≤ ρ 17 k ∧ ρ 17 k ≤ 7 := fun k a b => by rw [g17]; exact hc k a (by omega)
        have q4 : ∀ k, 0 ≤ k → k < 64 → 0 ≤ ρ q k := fun k a b => by rw [gq]; exact hq k a b
        clear w3 gq h41 i1 i2 i
        refine lpO2 (fun (i : Int) (_ : eS) => [some (vr p), some (vi r), some (vi i)]) (fun _ υ => υ) (fun i υ => 0 ≤ i ∧ i ≤ σ p 2 ∧ fr (fun c _ => c = q) ρ υ ∧ (∀ k, 0 ≤ k → k < 64 → 0 ≤ υ q k) ∧ ∀ k, i ≤ k → k < σ p 2 → W ≤ υ q (k * 8 + ρ 17 k)) (fun i _ => (8 - i).toNat) ?_ 0 ρ ⟨by omega, by omega, fr.rf, q4, w4⟩
        rintro i υ ⟨i1, i2, u, u1, u2⟩ ih
        have v2 : υ p 2 = σ p 2 := by rw [u p 2 (by omega), g2]
        have v5 : υ p 5 = W := by rw [u p 5 (by omega), eW]
        have v3 : υ p 3 = σ p 3 := by rw [u p 3 (by omega), g p 3 (by omega), hl]
        have v17 : ∀ k, υ 17 k = ρ 17 k := fun k => u 17 k (by omega)
        refine ok_gd (fun hgd => ?_)
        refine ok_iload_n 45 rfl rfl rfl (ok_aload_n 46 rfl rfl rfl (ok_getI 47 rfl rfl fl_X5_15 (sP hp) rfl (Or.inl rfl) (ok_icmp_ge 48 122 rfl rfl rfl (fun h87 => ?_) (fun h87 => ?_))))
        · have lr : rg (υ p 3) := eGd_i (k := 3) hgd (sP hp) rfl (by decide)
          refine ok_aload_n 68 rfl rfl rfl (ok_dup 69 rfl rfl rfl (ok_getI 70 rfl rfl fl_X5_19 (sP hp) rfl (Or.inl rfl) (ok_aload_n 71 rfl rfl rfl (ok_getI 72 rfl rfl fl_X5_25 (sP hp) rfl (Or.inl rfl) (ok_isub 73 rfl rfl (by first | omega | (simp [up_if]; omega) | (simp [up_if] at *; omega)) (ok_putI 74 rfl rfl fl_X5_19 (sP hp) rfl rfl rfl (ok_aload_n 75 rfl rfl rfl (ok_dup 76 rfl rfl rfl (ok_getI 77 rfl rfl fl_X5_22 (sP hp) rfl (Or.inl rfl) (ok_iconst 78 rfl rfl (by decide) (ok_iaddW 79 rfl rfl (ok_putI 80 rfl rfl fl_X5_22 (sP hp) rfl rfl rfl (ok_vret 81 rfl rfl rfl ?_)))))))))))))
          refine ⟨rfl, ?_, ?_, ?_, ?_, ?_, ?_, (mA.tr (mkS_cg (N := 0) (by decide) ?_ (fun k => ?_)) (by decide) (by decide)).mono (by decide)⟩
          · refine fr_up (fr_up ?_ (by simp [rgPe])) (by simp [rgPe])
            exact (fA.tr (g.mono (fun c k w => by simp only [rgPe]; omega))).tr (u.mono (fun c k w => by simp only [rgPe]; omega))
          · refine ⟨?_, fun k a b => ?_⟩
            · rw [up_nk _ _ _ _ (by decide), up_nk _ _ _ _ (by decide), v2]; exact h.1
            · rw [up_ne _ _ _ _ (by omega), up_ne _ _ _ _ (by omega)]; exact u1 k a b
          · exact iCh_cg hc (fun k => by rw [up_ne _ _ _ _ (by omega), up_ne _ _ _ _ (by omega), v17, g17])
          · rw [up_nk _ _ _ _ (by decide), up_same]; omega
          · rw [up_nk _ _ _ _ (by decide), up_nk _ _ _ _ (by decide)]; omega
          · rw [up_nk _ _ _ _ (by decide), up_same, up_nk _ _ _ _ (by decide), up_nk _ _ _ _ (by decide)]; omega
          · rw [up_ne _ _ _ _ (by omega), up_ne _ _ _ _ (by omega), u 16 3 (by omega), g 16 3 (by omega)]
          · rw [up_ne _ _ _ _ (by omega), up_ne _ _ _ _ (by omega), u 19 k (by omega), g 19 k (by omega)]
        · have c := c4 i i1 (by omega)
          rw [← v17] at c
          have uq := u2 i (Int.le_refl _) (by omega)
          rw [← v17] at uq
          have ur : rg (υ q (i * 8 + υ 17 i)) := eGd_a hgd (sQ hp) (Or.inl rfl)
          refine ok_aload_n 49 rfl rfl rfl (ok_getR 50 rfl rfl fl_X5_9 (sP hp) rfl (ok_iload_n 51 rfl rfl rfl (ok_bipush 52 rfl rfl (by decide) (by decide) (ok_imul 53 rfl rfl (by first | omega | (simp [up_if]; omega) | (simp [up_if] at *; omega)) (ok_aload_n 54 rfl rfl rfl (ok_getR 55 rfl rfl fl_X5_28 (sP hp) rfl (ok_getR 56 rfl rfl fl_X5_66 rfl rfl (ok_iload_n 57 rfl rfl rfl (ok_iald 58 rfl rfl rfl (by first | omega | (simp [up_if]; omega) | (simp [up_if] at *; omega)) (ok_iadd 59 rfl rfl (by first | omega | (simp [up_if]; omega) | (simp [up_if] at *; omega)) (ok_dup2 60 rfl rfl ⟨rfl, rfl⟩ (ok_iald 61 rfl rfl (sQ hp) (by first | omega | (simp [up_if]; omega) | (simp [up_if] at *; omega)) (ok_aload_n 62 rfl rfl rfl (ok_getI 63 rfl rfl fl_X5_25 (sP hp) rfl (Or.inl rfl) (ok_isub 64 rfl rfl (by first | omega | (simp [up_if]; omega) | (simp [up_if] at *; omega)) (ok_iast 65 rfl rfl (sQ hp) (by first | omega | (simp [up_if]; omega) | (simp [up_if] at *; omega)) (ok_inc2 66 rfl rfl rfl (by first | omega | (simp [up_if]; omega) | (simp [up_if] at *; omega)) (ok_goto 67 82 rfl rfl rfl ?_))))))))))))))))))
          rw [v5]
          refine ih (i + 1) _ ⟨by omega, by omega, fr_up u rfl, fun k a b => ?_, fun k a b => ?_⟩ (by omega)
          · rw [up_if]
            by_cases y : k = i * 8 + υ 17 i
            · rw [if_pos ⟨rfl, y⟩]; omega
            · rw [if_neg (fun x => y x.2)]; exact u1 k a b
          · have c' := c4 k (by omega) b
            rw [up_nk _ _ _ _ (by omega)]
            exact u2 k (by omega) b
      · have c := hc i (by omega) (by omega)
        rw [← g17] at c
        have cq := hq (i * 8 + ρ 17 i) (by omega) (by omega)
        rw [← gq] at cq
        refine ok_aload_n 24 rfl rfl rfl (ok_aload_n 25 rfl rfl rfl (ok_getI 26 rfl rfl fl_X5_25 (sP hp) rfl (Or.inl rfl) (ok_aload_n 27 rfl rfl rfl (ok_getR 28 rfl rfl fl_X5_9 (sP hp) rfl (ok_iload_n 29 rfl rfl rfl (ok_bipush 30 rfl rfl (by decide) (by decide) (ok_imul 31 rfl rfl (by first | omega | (simp [up_if]; omega) | (simp [up_if] at *; omega)) (ok_aload_n 32 rfl rfl rfl (ok_getR 33 rfl rfl fl_X5_28 (sP hp) rfl (ok_getR 34 rfl rfl fl_X5_66 rfl rfl (ok_iload_n 35 rfl rfl rfl (ok_iald 36 rfl rfl rfl (by first | omega | (simp [up_if]; omega) | (simp [up_if] at *; omega)) (ok_iadd 37 rfl rfl (by first | omega | (simp [up_if]; omega) | (simp [up_if] at *; omega)) (ok_iald 38 rfl rfl (sQ hp) (by first | omega | (simp [up_if]; omega) | (simp [up_if] at *; omega)) (ok_mmin 39 rfl rfl ml_X5_71 ⟨Nat.le_of_ble_eq_true rfl, Nat.le_of_ble_eq_true rfl⟩ (ok_putI 40 rfl rfl fl_X5_25 (sP hp) rfl rfl rfl (ok_inc2 41 rfl rfl rfl (by first | omega | (simp [up_if]; omega) | (simp [up_if] at *; omega)) (ok_goto 42 36 rfl rfl rfl ?_))))))))))))))))))
        refine ih (i + 1) _ ⟨by omega, by omega, fr_up g ⟨rfl, rfl⟩, by rw [up_same]; omega, by rw [up_same]; omega, ?_⟩ (by omega)
        rw [up_same]
        refine up_to (fun k a b => ?_) ?_
        · have := w3 k a b; omega
        · rw [← gq, ← g17]; omega
    · refine ok_aload_n 10 rfl rfl rfl (ok_iconst 11 rfl rfl (by decide) (ok_putI 12 rfl rfl fl_X5_19 (sP hp) rfl rfl rfl (ok_vret 13 rfl rfl rfl ?_)))
      exact ⟨rfl, stop0 _ f.1 f.2.1 f.2.2.2⟩
end
section
abbrev rgMi : Nat → Int → Prop := fun c k => (c = 22 ∧ k = 5) ∨ c = 23 ∨ c = 24
theorem mT_bd {σ : eS} {t : Nat} (hT : iT σ t) (hM : mT σ t) (h : σ t 3 ≠ -1) : 0 < σ t 3 ∧ σ t 3 ≤ 799999992 := by
  rcases hM with q | ⟨q1, q2⟩
  · exact absurd q.1 h
  · have := (rowT_bd hT (i := 0) ⟨by decide, by decide⟩).2
    have := q1.2.1
    omega
theorem QA_C {σ τ : eS} (h : IA σ) (f : fr rgCh σ τ) (c : iCh τ) (hk : mkS 20000 σ τ) : QA σ τ := by
  have e3 := f 10 3 (by simp [rgCh])
  refine ⟨⟨?_, iTs_cg h.2.1 (fun c k a b d => f c k (by simp only [rgCh]; omega)), c, iMi_cg h.2.2.2.1 (fun c k a b => f c k (by simp only [rgCh]; omega)), iSh_cg h.2.2.2.2.1 (fun k => f _ k (by simp [rgCh])), iSu_cg h.2.2.2.2.2 (fun k => f _ k (by simp [rgCh]))⟩, ⟨fun k => f _ k (by simp [rgCh]), fun k => f _ k (by simp [rgCh])⟩, fun c k a b d => f c k (by simp only [rgCh]; omega), fun c k a b => f c k (by simp only [rgCh]; omega), fun c k a b => f c k (by simp only [rgCh]; omega), hk⟩
  unfold tL
  rw [e3]
  exact h.1
theorem QA_18 {σ τ : eS} (h : IA σ) (f : fr (fun c _ => c = 18) σ τ) : QA σ τ := QA_C h (f.mono (fun c k w => by simp only [rgCh]; omega)) (iCh_cg h.2.2.1 (fun k => f _ _ (by simp))) (mkS_fr (by decide) f (by omega) (fun k => by omega))
end
