abbrev rgW : Nat → Int → Prop := fun c k => c = 23 ∨ (c = 0 ∧ k = 42)
def tn (e : Int) : Int := if e < 0 then 0 else if e = 0 then 1 else if e = 1 then 10 else if e = 2 then 100 else if e = 3 then 1000 else if e = 4 then 10000 else if e = 5 then 100000 else if e = 6 then 1000000 else if e = 7 then 10000000 else if e = 8 then 100000000 else 1000000000
theorem tn_s {e : Int} (h : 0 ≤ e ∧ e ≤ 8) : tn e * 10 = tn (e + 1) ∧ 1 ≤ tn e ∧ tn e ≤ 100000000 := by
  rcases (show e = 0 ∨ e = 1 ∨ e = 2 ∨ e = 3 ∨ e = 4 ∨ e = 5 ∨ e = 6 ∨ e = 7 ∨ e = 8 by omega) with q | q | q | q | q | q | q | q | q <;> subst q <;> exact ⟨rfl, by decide, by decide⟩
theorem tn_d {e : Int} (h : 0 ≤ e ∧ e ≤ 8) : tn e / 10 = tn (e - 1) := by
  rcases (show e = 0 ∨ e = 1 ∨ e = 2 ∨ e = 3 ∨ e = 4 ∨ e = 5 ∨ e = 6 ∨ e = 7 ∨ e = 8 by omega) with q | q | q | q | q | q | q | q | q <;> subst q <;> rfl
theorem tn_8 : tn 8 = 100000000 := rfl
theorem tn_n {e : Int} (h : 1 ≤ tn e) : 0 ≤ e := by
  by_cases q : e < 0
  · unfold tn at h
    rw [if_pos q] at h
    omega
  · omega
theorem s_Mo_show {σ : eS} (h : iK σ) : MtI shB M_Mo_show [vr 0] σ (fun σ' z => fr rgW σ σ' ∧ 0 ≤ σ' 0 42 ∧ σ' 0 42 ≤ 1216) := by
  refine Mt.of okM_Mo_show (Nat.le_of_ble_eq_true rfl) (fun hk hg => ?_)
  obtain ⟨k1, k2, k3, k4, k5, k6, -⟩ := id h
  refine ok_aload_n 0 rfl rfl rfl (ok_iconst 1 rfl rfl (by decide) (ok_putI 2 rfl rfl fl_X12_357 rfl rfl rfl rfl (ok_iconst 3 rfl rfl (by decide) (ok_ist1 4 rfl rfl rfl ?_))))
  refine lpO2 (fun (p : Int) (_ : eS) => [some (vr 0), some (vi p), none, none]) (fun _ ρ => ρ) (fun p ρ => 0 ≤ p ∧ p ≤ σ 0 27 ∧ fr rgW σ ρ ∧ 0 ≤ ρ 0 42 ∧ ρ 0 42 ≤ 19 * p) (fun p _ => (64 - p).toNat) ?_ 0 _ ⟨by omega, by omega, fr_up fr.rf (by simp [rgW]), by simp [up_if], by simp [up_if]⟩
  rintro p ρ ⟨p1, p2, f, s1, s2⟩ ih
  have e27 : ρ 0 27 = σ 0 27 := f 0 27 (by simp only [rgW]; omega)
  refine ok_iload_n 5 rfl rfl rfl (ok_aload_n 6 rfl rfl rfl (ok_getI 7 rfl rfl fl_X12_273 rfl rfl (Or.inl rfl) (ok_icmp_ge 8 120 rfl rfl rfl (fun h12 => ?_) (fun h12 => ?_))))
  · refine ok_aload_n 71 rfl rfl rfl (ok_getI 72 rfl rfl fl_X12_357 rfl rfl (Or.inl rfl) (ok_iret 73 rfl rfl rfl ?_))
    exact ⟨_, rfl, f, s1, by omega⟩
  · have plt : p < σ 0 27 := by omega
    obtain ⟨w1, w2⟩ := wt_le h p1 plt
    refine ok_iconst 9 rfl rfl (by decide) (ok_ist2 10 rfl rfl rfl ?_)
    have e12 : ρ 12 p = σ 12 p := f 12 p (by simp only [rgW]; omega)
    refine lpO (fun e : Int => [some (vr 0), some (vi p), some (vi (tn e)), none]) (fun _ => ρ) (fun e => 0 ≤ e ∧ e ≤ 8) (fun e => (8 - e).toNat) ?_ 0 ⟨by omega, by omega⟩
    rintro e ⟨e1, e2⟩ ih2
    obtain ⟨t1, t2, t3⟩ := tn_s ⟨e1, e2⟩
    have dv := div_bd (u := ρ 12 p) (g := tn e) (B := 799999992) ⟨by omega, by omega⟩ t2
    refine ok_aload_n 11 rfl rfl rfl (ok_getR 12 rfl rfl fl_X12_48 rfl rfl (ok_iload_n 13 rfl rfl rfl (ok_iald 14 rfl rfl rfl (by first | omega | (simp [up_if]; omega) | (simp [up_if] at *; omega)) (ok_iload_n 15 rfl rfl rfl (ok_idiv 16 rfl rfl (by first | omega | (simp [up_if]; omega) | (simp [up_if] at *; omega)) (by first | omega | (simp [up_if]; omega) | (simp [up_if] at *; omega)) (ok_bipush 17 rfl rfl (by decide) (by decide) (ok_icmp_le 18 38 rfl rfl rfl (fun h27 => ?_) (fun h27 => ?_))))))))
    · clear ih2
      refine lpO2 (fun (e : Int) (_ : eS) => [some (vr 0), some (vi p), some (vi (tn e)), none]) (fun _ υ => υ) (fun e υ => -1 ≤ e ∧ e ≤ 8 ∧ fr rgW σ υ ∧ 0 ≤ υ 0 42 ∧ υ 0 42 + e ≤ 19 * p + 8) (fun e _ => (e + 1).toNat) ?_ e ρ ⟨by omega, by omega, f, s1, by omega⟩
      clear t1 t2 t3 dv h27 e1 e2 e e27 s1 s2 f
      rintro e υ ⟨e1, e2, f, s1, s2⟩ ih2
      have e12 : υ 12 p = σ 12 p := f 12 p (by simp only [rgW]; omega)
      refine ok_iload_n 24 rfl rfl rfl (ok_if_le 25 68 rfl rfl rfl (fun h39 => ?_) (fun h39 => ?_))
      · have e0 : e = -1 := by
          by_cases q : 0 ≤ e
          · have := (tn_s ⟨q, e2⟩).2.1; omega
          · omega
        refine ok_aload_n 43 rfl rfl rfl (ok_bipush 44 rfl rfl (by decide) (by decide) (ok_callVV (M' := M_Mo_says) (as := [_]) 45 rfl rfl ml_X12_360 (s_Mo_says ⟨s1, by omega⟩) rfl rfl (Nat.le_of_ble_eq_true rfl) ⟨Nat.le_of_ble_eq_true rfl, Nat.le_of_ble_eq_true rfl⟩ rfl (Nat.le_of_ble_eq_true rfl) (fun υ' hz => ?_)))
        have f' := f.tr hz.1
        have hz2 := hz.2
        refine ok_iconst 46 rfl rfl (by decide) (ok_ist3 47 rfl rfl rfl ?_)
        refine lpO2 (fun (i : Int) (_ : eS) => [some (vr 0), some (vi p), some (vi (tn e)), some (vi i)]) (fun _ υ => υ) (fun i υ => 0 ≤ i ∧ i ≤ σ 0 28 ∧ fr rgW σ υ ∧ 0 ≤ υ 0 42 ∧ υ 0 42 ≤ 19 * p + 10 + i) (fun i _ => (8 - i).toNat) ?_ 0 υ' ⟨by omega, by omega, f', by omega, by omega⟩
        clear e12 s1 s2 f f' hz hz2 ih2 
        rintro i υ ⟨i1, i2, f, s1, s2⟩ ih2
        have e28 : υ 0 28 = σ 0 28 := f 0 28 (by simp only [rgW]; omega)
        have e13 : ∀ k, υ 13 k = σ 13 k := fun k => f 13 k (by simp only [rgW]; omega)
        refine ok_iload_n 48 rfl rfl rfl (ok_aload_n 49 rfl rfl rfl (ok_getI 50 rfl rfl fl_X12_276 rfl rfl (Or.inl rfl) (ok_icmp_ge 51 108 rfl rfl rfl (fun h81 => ?_) (fun h81 => ?_))))
        · refine ok_aload_n 66 rfl rfl rfl (ok_bipush 67 rfl rfl (by decide) (by decide) (ok_callVV (M' := M_Mo_says) (as := [_]) 68 rfl rfl ml_X12_360 (s_Mo_says ⟨s1, by omega⟩) rfl rfl (Nat.le_of_ble_eq_true rfl) ⟨Nat.le_of_ble_eq_true rfl, Nat.le_of_ble_eq_true rfl⟩ rfl (Nat.le_of_ble_eq_true rfl) (fun υ'' hz => ?_)))
          refine ok_inc1 69 rfl rfl rfl (by first | omega | (simp [up_if]; omega) | (simp [up_if] at *; omega)) (ok_goto 70 7 rfl rfl rfl ?_)
          exact ok_fg [some (vr 0), some (vi (p + 1)), none, none] ⟨rfl, rfl, trivial⟩ (ih (p + 1) _ ⟨by omega, by omega, f.tr hz.1, by have := hz.2; omega, by have := hz.2; omega⟩ (by omega))
        · have hc := h.2.2.2.2.2.2.2.1 p i p1 (by omega) i1 (by omega)
          rw [← e13] at hc
          refine ok_aload_n 52 rfl rfl rfl (ok_bipush 53 rfl rfl (by decide) (by decide) (ok_aload_n 54 rfl rfl rfl (ok_getR 55 rfl rfl fl_X12_51 rfl rfl (ok_bipush 56 rfl rfl (by decide) (by decide) (ok_iload_n 57 rfl rfl rfl (ok_imul 58 rfl rfl (by first | omega | (simp [up_if]; omega) | (simp [up_if] at *; omega)) (ok_iload_n 59 rfl rfl rfl (ok_iadd 60 rfl rfl (by first | omega | (simp [up_if]; omega) | (simp [up_if] at *; omega)) (ok_iald 61 rfl rfl rfl (by first | omega | (simp [up_if]; omega) | (simp [up_if] at *; omega)) (ok_iadd 62 rfl rfl (by first | omega | (simp [up_if]; omega) | (simp [up_if] at *; omega)) (ok_callVV (M' := M_Mo_says) (as := [_]) 63 rfl rfl ml_X12_360 (s_Mo_says ⟨s1, by omega⟩) rfl rfl (Nat.le_of_ble_eq_true rfl) ⟨Nat.le_of_ble_eq_true rfl, Nat.le_of_ble_eq_true rfl⟩ rfl (Nat.le_of_ble_eq_true rfl) (fun υ'' hz => ?_))))))))))))
          refine ok_inc3 64 rfl rfl rfl (by first | omega | (simp [up_if]; omega) | (simp [up_if] at *; omega)) (ok_goto 65 76 rfl rfl rfl ?_)
          exact ih2 (i + 1) _ ⟨by omega, by omega, f.tr hz.1, by have := hz.2; omega, by have := hz.2; omega⟩ (by omega)
      · have e0 : 0 ≤ e := tn_n (by omega)
        obtain ⟨t1, t2, t3⟩ := tn_s (e := e) ⟨e0, e2⟩
        have dv := div_bd (u := υ 12 p) (g := tn e) (B := 799999992) ⟨by omega, by omega⟩ t2
        refine ok_aload_n 26 rfl rfl rfl (ok_bipush 27 rfl rfl (by decide) (by decide) (ok_aload_n 28 rfl rfl rfl (ok_getR 29 rfl rfl fl_X12_48 rfl rfl (ok_iload_n 30 rfl rfl rfl (ok_iald 31 rfl rfl rfl (by first | omega | (simp [up_if]; omega) | (simp [up_if] at *; omega)) (ok_iload_n 32 rfl rfl rfl (ok_idiv 33 rfl rfl (by first | omega | (simp [up_if]; omega) | (simp [up_if] at *; omega)) (by first | omega | (simp [up_if]; omega) | (simp [up_if] at *; omega)) (ok_bipush 34 rfl rfl (by decide) (by decide) (ok_irem 35 rfl rfl (by first | omega | (simp [up_if]; omega) | (simp [up_if] at *; omega)) (by first | omega | (simp [up_if]; omega) | (simp [up_if] at *; omega)) (ok_iadd 36 rfl rfl (by first | omega | (simp [up_if]; omega) | (simp [up_if] at *; omega)) (ok_callVV (M' := M_Mo_says) (as := [_]) 37 rfl rfl ml_X12_360 (s_Mo_says ⟨s1, by omega⟩) rfl rfl (Nat.le_of_ble_eq_true rfl) ⟨Nat.le_of_ble_eq_true rfl, Nat.le_of_ble_eq_true rfl⟩ rfl (Nat.le_of_ble_eq_true rfl) (fun υ' hz => ?_))))))))))))
        refine ok_iload_n 38 rfl rfl rfl (ok_bipush 39 rfl rfl (by decide) (by decide) (ok_idiv 40 rfl rfl (by first | omega | (simp [up_if]; omega) | (simp [up_if] at *; omega)) (by first | omega | (simp [up_if]; omega) | (simp [up_if] at *; omega)) (ok_ist2 41 rfl rfl rfl (ok_goto 42 38 rfl rfl rfl ?_))))
        rw [tn_d ⟨e0, e2⟩]
        exact ih2 (e - 1) _ ⟨by omega, by omega, f.tr hz.1, by have := hz.2; omega, by have := hz.2; omega⟩ (by omega)
    · have e8 : e ≠ 8 := by
        intro q
        rw [q, tn_8] at h27
        omega
      refine ok_iload_n 19 rfl rfl rfl (ok_bipush 20 rfl rfl (by decide) (by decide) (ok_imul 21 rfl rfl (by first | omega | (simp [up_if]; omega) | (simp [up_if] at *; omega)) (ok_ist2 22 rfl rfl rfl (ok_goto 23 17 rfl rfl rfl ?_))))
      rw [t1]
      exact ih2 (e + 1) ⟨by omega, by omega⟩ (by omega)
theorem s_Mo_kept {σ : eS} {w : Int} : MtI shB M_Mo_kept [vr 0, vi w] σ (fun σ' _ => σ' = σ) := by
  refine Mt.of okM_Mo_kept (Nat.le_of_ble_eq_true rfl) (fun hk hg => ?_)
  refine ok_iload_n 0 rfl rfl rfl ?_
  rcases (show w = 0 ∨ w = 1 ∨ w = 2 ∨ w = 3 ∨ w = 4 ∨ (w < 0 ∨ 4 < w) by omega) with q | q | q | q | q | q
  · subst q
    refine ok_tin 1 (len := 35) 36 rfl rfl (by decide) (by decide) rfl rfl ?_
    refine ok_aload_n 2 rfl rfl rfl (ok_getI 3 rfl rfl fl_X12_282 rfl rfl (Or.inl rfl) (ok_iret 4 rfl rfl rfl ?_))
    exact ⟨_, rfl, rfl⟩
  · subst q
    refine ok_tin 1 (len := 35) 41 rfl rfl (by decide) (by decide) rfl rfl ?_
    refine ok_aload_n 5 rfl rfl rfl (ok_getI 6 rfl rfl fl_X12_273 rfl rfl (Or.inl rfl) (ok_iret 7 rfl rfl rfl ?_))
    exact ⟨_, rfl, rfl⟩
  · subst q
    refine ok_tin 1 (len := 35) 46 rfl rfl (by decide) (by decide) rfl rfl ?_
    refine ok_aload_n 8 rfl rfl rfl (ok_getI 9 rfl rfl fl_X12_279 rfl rfl (Or.inl rfl) (ok_iret 10 rfl rfl rfl ?_))
    exact ⟨_, rfl, rfl⟩
  · subst q
    refine ok_tin 1 (len := 35) 51 rfl rfl (by decide) (by decide) rfl rfl ?_
    refine ok_aload_n 11 rfl rfl rfl (ok_getI 12 rfl rfl fl_X12_282 rfl rfl (Or.inl rfl) (ok_iconst 13 rfl rfl (by decide) (ok_icmp_ne 14 66 rfl rfl rfl (fun h56 => ?_) (fun h56 => ?_))))
    · refine ok_aload_n 18 rfl rfl rfl (ok_getI 19 rfl rfl fl_X12_276 rfl rfl (Or.inl rfl) (ok_iret 20 rfl rfl rfl ?_))
      exact ⟨_, rfl, rfl⟩
    · refine ok_aload_n 15 rfl rfl rfl (ok_getI 16 rfl rfl fl_X12_363 rfl rfl (Or.inl rfl) (ok_goto 17 70 rfl rfl rfl (ok_iret 20 rfl rfl rfl ?_)))
      exact ⟨_, rfl, rfl⟩
  · subst q
    refine ok_tin 1 (len := 35) 71 rfl rfl (by decide) (by decide) rfl rfl ?_
    refine ok_aload_n 21 rfl rfl rfl (ok_getI 22 rfl rfl fl_X12_125 rfl rfl (Or.inl rfl) (ok_iret 23 rfl rfl rfl ?_))
    exact ⟨_, rfl, rfl⟩
  · refine ok_tout 1 (len := 35) 76 rfl rfl q rfl ?_
    refine ok_iconst 24 rfl rfl (by decide) (ok_iret 25 rfl rfl rfl ?_)
    exact ⟨_, rfl, rfl⟩
