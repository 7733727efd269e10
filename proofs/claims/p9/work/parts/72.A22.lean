theorem s_Mk_makeProduct {σ : eS} {t u v : Nat} (ht : tA t) (hu : tA u) (hv : tA v) (hS : iSu σ) (hT : iT σ t) (hU : iT σ u) (hV : iT σ v) (hM : mT σ v) (hn : σ t 1 ≠ 0) (hnu : σ t 1 = σ u 1) : MtI shA M_Mk_makeProduct [vr 14, vr t, vr u, vr v] σ (fun σ' z => fr (fun c _ => c = 15 ∨ c = v ∨ c = v + 4) σ σ' ∧ iT σ' v ∧ mT σ' v ∧ iSu σ' ∧ (z = 0 ∨ z = 1)) := by
  refine Mt.of okM_Mk_makeProduct (Nat.le_of_ble_eq_true rfl) (fun hk hg => ?_)
  have nA := tA_10 ht
  have nB := tA_10 hu
  have nC := tA_10 hv
  have n1 := hT.1
  have n2 := hT.2.1
  have hB := hT.2.2.1 (by omega)
  have hB2 := hU.2.2.1 (by omega)
  refine ok_iconst 0 rfl rfl (by decide) (ok_ist4 1 rfl rfl rfl ?_)
  refine lpO2 (fun (i : Int) (_ : eS) => [some (vr 14), some (vr t), some (vr u), some (vr v), some (vi i), none, none, none, none]) (fun _ ρ => ρ) (fun i ρ => 0 ≤ i ∧ i ≤ 8 ∧ fr rgSu σ ρ ∧ iSu ρ) (fun i _ => (8 - i).toNat) ?_ 0 σ ⟨by omega, by omega, fr.rf, hS⟩
  rintro i ρ ⟨i1, i2, f, hS1⟩ ih
  have e1 : ρ t 1 = σ t 1 := f t 1 (by simp only [rgSu]; omega)
  refine ok_iload 2 rfl rfl rfl (ok_aload_n 3 rfl rfl rfl (ok_getI 4 rfl rfl fl_X2_31 (sT ht) rfl (Or.inl rfl) (ok_icmp_ge 5 106 rfl rfl rfl (fun h9 => ?_) (fun h9 => ?_))))
  · have e2 : ρ t 2 = σ t 2 := f t 2 (by simp only [rgSu]; omega)
    have e3 : ρ u 2 = σ u 2 := f u 2 (by simp only [rgSu]; omega)
    have x1 : ∀ k, ρ (v + 4) k = σ (v + 4) k := fun k => f _ _ (by simp only [rgSu]; omega)
    have x2 : ∀ k, ρ v k = σ v k := fun k => f _ _ (by simp only [rgSu]; omega)
    have mm := mul_bd2 (a := ρ t 2) (b := ρ u 2) (A := 999999) (B := 999999) ⟨by omega, by omega⟩ ⟨by omega, by omega⟩
    refine ok_aload_n 57 rfl rfl rfl (ok_aload_n 58 rfl rfl rfl (ok_getI 59 rfl rfl fl_X2_15 (sT ht) rfl (Or.inl rfl) (ok_i2l 60 rfl rfl (ok_aload_n 61 rfl rfl rfl (ok_getI 62 rfl rfl fl_X2_15 (sT hu) rfl (Or.inl rfl) (ok_i2l 63 rfl rfl (ok_lmul 64 rfl rfl (by first | omega | (simp [up_if]; omega) | (simp [up_if] at *; omega)) (ok_aload_n 65 rfl rfl rfl (ok_getI 66 rfl rfl fl_X2_31 (sT ht) rfl (Or.inl rfl) (ok_aload_n 67 rfl rfl rfl (ok_callVI (M' := M_Mk_bring) (as := [_, _, _]) 68 rfl rfl ml_X2_44 (s_Mk_bring hv mm.1 ⟨by omega, by omega⟩ hS1 (iT_cg hV (x2 1) (x2 2) x1).1 (mT_cg hM (x2 1) (x2 3) x1)) rfl rfl (Nat.le_of_ble_eq_true rfl) ⟨Nat.le_of_ble_eq_true rfl, Nat.le_of_ble_eq_true rfl⟩ rfl (Nat.le_of_ble_eq_true rfl) (fun τ z hz => ?_))))))))))))
    refine ok_zret 69 rfl rfl rfl hz.2.2.2 ?_
    exact ⟨_, rfl, (f.mono (fun c k q => by simp only [rgSu] at q; omega)).tr (hz.1.mono (fun c k q => by simp only [rgBr] at q; omega)), hz.2.1, hz.2.2.1, iSu_cg hS1 (fun k => hz.1 15 k (by simp only [rgBr]; omega)), hz.2.2.2⟩
  · refine ok_iconst 6 rfl rfl (by decide) (ok_ist5 7 rfl rfl rfl ?_)
    have il : i < σ t 1 := by omega
    clear h9
    refine lpO2 (fun (j : Int) (_ : eS) => [some (vr 14), some (vr t), some (vr u), some (vr v), some (vi i), some (vi j), none, none, none]) (fun _ ρ => ρ) (fun j ρ => 0 ≤ j ∧ j ≤ 8 ∧ fr rgSu σ ρ ∧ iSu ρ) (fun j _ => (8 - j).toNat) ?_ 0 ρ ⟨by omega, by omega, f, hS1⟩
    clear e1 f hS1 ρ
    rintro j ρ ⟨j1, j2, f, hS1⟩ ih2
    have e1 : ρ t 1 = σ t 1 := f t 1 (by simp only [rgSu]; omega)
    refine ok_iload 8 rfl rfl rfl (ok_aload_n 9 rfl rfl rfl (ok_getI 10 rfl rfl fl_X2_31 (sT ht) rfl (Or.inl rfl) (ok_icmp_ge 11 100 rfl rfl rfl (fun h21 => ?_) (fun h21 => ?_))))
    · refine ok_inc4 55 rfl rfl rfl (by first | omega | (simp [up_if]; omega) | (simp [up_if] at *; omega)) (ok_goto 56 3 rfl rfl rfl ?_)
      exact ok_fg [some (vr 14), some (vr t), some (vr u), some (vr v), some (vi (i + 1)), none, none, none, none] ⟨rfl, rfl, rfl, rfl, rfl, trivial⟩ (ih (i + 1) ρ ⟨by omega, by omega, f, hS1⟩ (by omega))
    · refine ok_lconst (w := 0) 12 rfl rfl rfl (by decide) (ok_lst6 13 rfl rfl rfl (ok_iconst 14 rfl rfl (by decide) (ok_ist8 15 rfl rfl rfl ?_)))
      have jl : j < σ t 1 := by omega
      clear h21
      refine lpO2 (fun (s k : Int) => [some (vr 14), some (vr t), some (vr u), some (vr v), some (vi i), some (vi j), some (vl s), none, some (vi k)]) (fun _ _ => ρ) (fun s k => 0 ≤ k ∧ k ≤ 8 ∧ 0 ≤ s ∧ s ≤ k * 9999999800000001) (fun _ k => (8 - k).toNat) ?_ 0 0 ⟨by omega, by omega, by omega, by omega⟩
      rintro s k ⟨k1, k2, s1, s2⟩ ih3
      refine ok_iload 16 rfl rfl rfl (ok_aload_n 17 rfl rfl rfl (ok_getI 18 rfl rfl fl_X2_31 (sT ht) rfl (Or.inl rfl) (ok_icmp_ge 19 79 rfl rfl rfl (fun h36 => ?_) (fun h36 => ?_))))
      · refine ok_aload_n 44 rfl rfl rfl (ok_getR 45 rfl rfl fl_X2_9 rfl rfl (ok_iload 46 rfl rfl rfl (ok_bipush 47 rfl rfl (by decide) (by decide) (ok_imul 48 rfl rfl (by first | omega | (simp [up_if]; omega) | (simp [up_if] at *; omega)) (ok_iload 49 rfl rfl rfl (ok_iadd 50 rfl rfl (by first | omega | (simp [up_if]; omega) | (simp [up_if] at *; omega)) (ok_lload 51 rfl rfl rfl (ok_last 52 rfl rfl rfl (by first | omega | (simp [up_if]; omega) | (simp [up_if] at *; omega)) (ok_inc5 53 rfl rfl rfl (by first | omega | (simp [up_if]; omega) | (simp [up_if] at *; omega)) (ok_goto 54 15 rfl rfl rfl ?_))))))))))
        exact ok_fg [some (vr 14), some (vr t), some (vr u), some (vr v), some (vi i), some (vi (j + 1)), none, none, none] ⟨rfl, rfl, rfl, rfl, rfl, rfl, trivial⟩ (ih2 (j + 1) _ ⟨by omega, by omega, fr_up f rfl, up_su hS1 s1⟩ (by omega))
      · have c1 := hT.2.2.2 (i * 8 + k) (by omega) (by omega)
        rw [← f (t + 4) (i * 8 + k) (by simp only [rgSu]; omega)] at c1
        have c2 := hU.2.2.2 (k * 8 + j) (by omega) (by omega)
        rw [← f (u + 4) (k * 8 + j) (by simp only [rgSu]; omega)] at c2
        have mm := mul_bd2 c1 c2
        refine ok_lload 20 rfl rfl rfl (ok_aload_n 21 rfl rfl rfl (ok_getR 22 rfl rfl fl_X2_34 (sT ht) rfl (ok_iload 23 rfl rfl rfl (ok_bipush 24 rfl rfl (by decide) (by decide) (ok_imul 25 rfl rfl (by first | omega | (simp [up_if]; omega) | (simp [up_if] at *; omega)) (ok_iload 26 rfl rfl rfl (ok_iadd 27 rfl rfl (by first | omega | (simp [up_if]; omega) | (simp [up_if] at *; omega)) (ok_iald 28 rfl rfl (sC ht) (by first | omega | (simp [up_if]; omega) | (simp [up_if] at *; omega)) (ok_i2l 29 rfl rfl (ok_aload_n 30 rfl rfl rfl (ok_getR 31 rfl rfl fl_X2_34 (sT hu) rfl (ok_iload 32 rfl rfl rfl (ok_bipush 33 rfl rfl (by decide) (by decide) (ok_imul 34 rfl rfl (by first | omega | (simp [up_if]; omega) | (simp [up_if] at *; omega)) (ok_iload 35 rfl rfl rfl (ok_iadd 36 rfl rfl (by first | omega | (simp [up_if]; omega) | (simp [up_if] at *; omega)) (ok_iald 37 rfl rfl (sC hu) (by first | omega | (simp [up_if]; omega) | (simp [up_if] at *; omega)) (ok_i2l 38 rfl rfl (ok_lmul 39 rfl rfl (by first | omega | (simp [up_if]; omega) | (simp [up_if] at *; omega)) (ok_ladd 40 rfl rfl (by first | omega | (simp [up_if]; omega) | (simp [up_if] at *; omega)) (ok_lst6 41 rfl rfl rfl (ok_inc8 42 rfl rfl rfl (by first | omega | (simp [up_if]; omega) | (simp [up_if] at *; omega)) (ok_goto 43 30 rfl rfl rfl ?_)))))))))))))))))))))))
        exact ih3 _ (k + 1) ⟨by omega, by omega, by omega, by omega⟩ (by omega)
theorem s_Mk_makeMixture {σ : eS} {t u v : Nat} {x y a b : Int} (ht : tA t) (hu : tA u) (hv : tA v) (hS : iSu σ) (hT : iT σ t) (hU : iT σ u) (hV : iT σ v) (hM : mT σ v) (hn : σ t 1 ≠ 0) (hnu : σ t 1 = σ u 1) (hx : 0 ≤ x ∧ x ≤ 9999 ∧ 1 ≤ y ∧ y ≤ 9999) (ha : 0 ≤ a ∧ a ≤ 9999 ∧ 1 ≤ b ∧ b ≤ 9999) : MtI shA M_Mk_makeMixture [vr 14, vr t, vi x, vi y, vr u, vi a, vi b, vr v] σ (fun σ' z => fr (fun c _ => c = 15 ∨ c = v ∨ c = v + 4) σ σ' ∧ iT σ' v ∧ mT σ' v ∧ iSu σ' ∧ (z = 0 ∨ z = 1)) := by
  refine Mt.of okM_Mk_makeMixture (Nat.le_of_ble_eq_true rfl) (fun hk hg => ?_)
  have nA := tA_10 ht
  have nB := tA_10 hu
  have nC := tA_10 hv
  have n1 := hT.1
  have n2 := hT.2.1
  have hB := hT.2.2.1 (by omega)
  have hB2 := hU.2.2.1 (by omega)
  have m1 := mul_bd2 (a := y) (b := σ t 2) (A := 9999) (B := 999999) ⟨by omega, by omega⟩ ⟨by omega, by omega⟩
  have m2 := mul_bd2 (a := b) (b := σ u 2) (A := 9999) (B := 999999) ⟨by omega, by omega⟩ ⟨by omega, by omega⟩
  have m3 : 0 < y * σ t 2 := Int.mul_pos (by omega) (by omega)
  have m4 : 0 < b * σ u 2 := Int.mul_pos (by omega) (by omega)
  refine ok_iload_n 0 rfl rfl rfl (ok_i2l 1 rfl rfl (ok_aload_n 2 rfl rfl rfl (ok_getI 3 rfl rfl fl_X2_15 (sT ht) rfl (Or.inl rfl) (ok_i2l 4 rfl rfl (ok_lmul 5 rfl rfl (by first | omega | (simp [up_if]; omega) | (simp [up_if] at *; omega)) (ok_lst8 6 rfl rfl rfl (ok_iload 7 rfl rfl rfl (ok_i2l 8 rfl rfl (ok_aload 9 rfl rfl rfl (ok_getI 10 rfl rfl fl_X2_15 (sT hu) rfl (Or.inl rfl) (ok_i2l 11 rfl rfl (ok_lmul 12 rfl rfl (by first | omega | (simp [up_if]; omega) | (simp [up_if] at *; omega)) (ok_lst10 13 rfl rfl rfl (ok_lload 14 rfl rfl rfl (ok_lload 15 rfl rfl rfl (ok_ldc2 16 (1000000000) rfl rfl kc_X2_21 (by decide) (ok_callSL (M' := M_Nu_leastMultiple) (as := [_, _, _]) 17 rfl rfl ml_X2_23 (s_Nu_lm (by omega) (by omega) (by omega)) ⟨Nat.le_of_ble_eq_true rfl, Nat.le_of_ble_eq_true rfl⟩ rfl (Nat.le_of_ble_eq_true rfl) (fun σ' g hg1 => ?_))))))))))))))))))
  obtain ⟨hs_, hg1⟩ := hg1
  rw [hs_]; clear hs_ σ'
  refine ok_lst12 18 rfl rfl rfl (ok_lload 19 rfl rfl rfl (ok_ldc2 20 (-1) rfl rfl kc_X2_29 (by decide) (ok_lcmp_ne 21 22 45 rfl rfl rfl rfl rfl (fun h39 => ?_) (fun h39 => ?_))))
  · have g1 : 1 ≤ g ∧ g ≤ 1000000000 := by omega
    clear hg1
    obtain ⟨p, ep⟩ : ∃ p : Int, p = y * σ t 2 := ⟨_, rfl⟩
    obtain ⟨q, eq⟩ : ∃ q : Int, q = b * σ u 2 := ⟨_, rfl⟩
    rw [← ep, ← eq]
    have d1 : 0 ≤ g / p := Int.ediv_nonneg (by omega) (by omega)
    have d2 : 0 ≤ g / q := Int.ediv_nonneg (by omega) (by omega)
    refine ok_lload 25 rfl rfl rfl (ok_lload 26 rfl rfl rfl (ok_ldiv 27 rfl rfl (by first | omega | (simp [up_if]; omega) | (simp [up_if] at *; omega)) (by first | omega | (simp [up_if]; omega) | (simp [up_if] at *; omega)) (ok_lst14 28 rfl rfl rfl (ok_lload 29 rfl rfl rfl (ok_lload 30 rfl rfl rfl (ok_ldiv 31 rfl rfl (by first | omega | (simp [up_if]; omega) | (simp [up_if] at *; omega)) (by first | omega | (simp [up_if]; omega) | (simp [up_if] at *; omega)) (ok_lst16 32 rfl rfl rfl (ok_iconst 33 rfl rfl (by decide) (ok_ist18 34 rfl rfl rfl ?_)))))))))
    obtain ⟨d, ed⟩ : ∃ d : Int, d = g / p := ⟨_, rfl⟩
    obtain ⟨e, ee⟩ : ∃ e : Int, e = g / q := ⟨_, rfl⟩
    rw [← ed, ← ee] 
    rw [← ed] at d1
    rw [← ee] at d2
    refine lpO2 (fun (i : Int) (_ : eS) => [some (vr 14), some (vr t), some (vi x), some (vi y), some (vr u), some (vi a), some (vi b), some (vr v), some (vl p), none, some (vl q), none, some (vl g), none, some (vl d), none, some (vl e), none, some (vi i), none, none, none, none, none, none]) (fun _ ρ => ρ) (fun i ρ => 0 ≤ i ∧ i ≤ 8 ∧ fr rgSu σ ρ ∧ iSu ρ) (fun i _ => (8 - i).toNat) ?_ 0 σ ⟨by omega, by omega, fr.rf, hS⟩
    clear ed ee ep eq m1 m2 m3 m4 h39
    rintro i ρ ⟨i1, i2, f, hS1⟩ ih
    have e1 : ρ t 1 = σ t 1 := f t 1 (by simp only [rgSu]; omega)
    refine ok_iload 35 rfl rfl rfl (ok_aload_n 36 rfl rfl rfl (ok_getI 37 rfl rfl fl_X2_31 (sT ht) rfl (Or.inl rfl) (ok_icmp_ge 38 187 rfl rfl rfl (fun h68 => ?_) (fun h68 => ?_))))
    · have x1 : ∀ k, ρ (v + 4) k = σ (v + 4) k := fun k => f _ _ (by simp only [rgSu]; omega)
      have x2 : ∀ k, ρ v k = σ v k := fun k => f _ _ (by simp only [rgSu]; omega)
      refine ok_aload_n 100 rfl rfl rfl (ok_lload 101 rfl rfl rfl (ok_aload_n 102 rfl rfl rfl (ok_getI 103 rfl rfl fl_X2_31 (sT ht) rfl (Or.inl rfl) (ok_aload 104 rfl rfl rfl (ok_callVI (M' := M_Mk_bring) (as := [_, _, _]) 105 rfl rfl ml_X2_44 (s_Mk_bring hv (by omega) ⟨by omega, by omega⟩ hS1 (iT_cg hV (x2 1) (x2 2) x1).1 (mT_cg hM (x2 1) (x2 3) x1)) rfl rfl (Nat.le_of_ble_eq_true rfl) ⟨Nat.le_of_ble_eq_true rfl, Nat.le_of_ble_eq_true rfl⟩ rfl (Nat.le_of_ble_eq_true rfl) (fun τ z hz => ?_))))))
      refine ok_zret 106 rfl rfl rfl hz.2.2.2 ?_
      exact ⟨_, rfl, (f.mono (fun c k q => by simp only [rgSu] at q; omega)).tr (hz.1.mono (fun c k q => by simp only [rgBr] at q; omega)), hz.2.1, hz.2.2.1, iSu_cg hS1 (fun k => hz.1 15 k (by simp only [rgBr]; omega)), hz.2.2.2⟩
    · refine ok_iconst 39 rfl rfl (by decide) (ok_ist19 40 rfl rfl rfl ?_)
      have il : i < σ t 1 := by omega
      clear h68
      refine lpO2 (fun (j : Int) (_ : eS) => [some (vr 14), some (vr t), some (vi x), some (vi y), some (vr u), some (vi a), some (vi b), some (vr v), some (vl p), none, some (vl q), none, some (vl g), none, some (vl d), none, some (vl e), none, some (vi i), some (vi j), none, none, none, none, none]) (fun _ ρ => ρ) (fun j ρ => 0 ≤ j ∧ j ≤ 8 ∧ fr rgSu σ ρ ∧ iSu ρ) (fun j _ => (8 - j).toNat) ?_ 0 ρ ⟨by omega, by omega, f, hS1⟩
      clear e1 f hS1 ρ
      rintro j ρ ⟨j1, j2, f, hS1⟩ ih2
      have e1 : ρ t 1 = σ t 1 := f t 1 (by simp only [rgSu]; omega)
      refine ok_iload 41 rfl rfl rfl (ok_aload_n 42 rfl rfl rfl (ok_getI 43 rfl rfl fl_X2_31 (sT ht) rfl (Or.inl rfl) (ok_icmp_ge 44 181 rfl rfl rfl (fun h80 => ?_) (fun h80 => ?_))))
      · refine ok_inc18 98 rfl rfl rfl (by first | omega | (simp [up_if]; omega) | (simp [up_if] at *; omega)) (ok_goto 99 62 rfl rfl rfl ?_)
        exact ok_fg [some (vr 14), some (vr t), some (vi x), some (vi y), some (vr u), some (vi a), some (vi b), some (vr v), some (vl p), none, some (vl q), none, some (vl g), none, some (vl d), none, some (vl e), none, some (vi (i + 1)), none, none, none, none, none, none] ⟨rfl, rfl, rfl, rfl, rfl, rfl, rfl, rfl, rfl, rfl, rfl, rfl, rfl, rfl, trivial⟩ (ih (i + 1) ρ ⟨by omega, by omega, f, hS1⟩ (by omega))
      · have c1 := hT.2.2.2 (i * 8 + j) (by omega) (by omega)
        rw [← f (t + 4) (i * 8 + j) (by simp only [rgSu]; omega)] at c1
        have c2 := hU.2.2.2 (i * 8 + j) (by omega) (by omega)
        rw [← f (u + 4) (i * 8 + j) (by simp only [rgSu]; omega)] at c2
        have mm := mul_bd2 (a := x) (b := ρ (t + 4) (i * 8 + j)) (A := 9999) (B := 99999999) ⟨by omega, by omega⟩ c1
        have mm2 := mul_bd2 (a := a) (b := ρ (u + 4) (i * 8 + j)) (A := 9999) (B := 99999999) ⟨by omega, by omega⟩ c2
        refine ok_iload 45 rfl rfl rfl (ok_bipush 46 rfl rfl (by decide) (by decide) (ok_imul 47 rfl rfl (by first | omega | (simp [up_if]; omega) | (simp [up_if] at *; omega)) (ok_iload 48 rfl rfl rfl (ok_iadd 49 rfl rfl (by first | omega | (simp [up_if]; omega) | (simp [up_if] at *; omega)) (ok_ist20 50 rfl rfl rfl (ok_iload_n 51 rfl rfl rfl (ok_i2l 52 rfl rfl (ok_aload_n 53 rfl rfl rfl (ok_getR 54 rfl rfl fl_X2_34 (sT ht) rfl (ok_iload 55 rfl rfl rfl (ok_iald 56 rfl rfl (sC ht) (by first | omega | (simp [up_if]; omega) | (simp [up_if] at *; omega)) (ok_i2l 57 rfl rfl (ok_lmul 58 rfl rfl (by first | omega | (simp [up_if]; omega) | (simp [up_if] at *; omega)) (ok_lload 59 rfl rfl rfl (ok_callSL (M' := M_Mk_multiplied) (as := [_, _]) 60 rfl rfl ml_X2_38 (s_Mk_multiplied mm.1 d1) ⟨Nat.le_of_ble_eq_true rfl, Nat.le_of_ble_eq_true rfl⟩ rfl (Nat.le_of_ble_eq_true rfl) (fun σ' z1 r1 => ?_))))))))))))))))
        obtain ⟨hs_, r1⟩ := r1
        rw [hs_]; clear hs_ σ'
        refine ok_lst21 61 rfl rfl rfl (ok_iload 62 rfl rfl rfl (ok_i2l 63 rfl rfl (ok_aload 64 rfl rfl rfl (ok_getR 65 rfl rfl fl_X2_34 (sT hu) rfl (ok_iload 66 rfl rfl rfl (ok_iald 67 rfl rfl (sC hu) (by first | omega | (simp [up_if]; omega) | (simp [up_if] at *; omega)) (ok_i2l 68 rfl rfl (ok_lmul 69 rfl rfl (by first | omega | (simp [up_if]; omega) | (simp [up_if] at *; omega)) (ok_lload 70 rfl rfl rfl (ok_callSL (M' := M_Mk_multiplied) (as := [_, _]) 71 rfl rfl ml_X2_38 (s_Mk_multiplied mm2.1 d2) ⟨Nat.le_of_ble_eq_true rfl, Nat.le_of_ble_eq_true rfl⟩ rfl (Nat.le_of_ble_eq_true rfl) (fun σ' z2 r2 => ?_)))))))))))
        obtain ⟨hs_, r2⟩ := r2
        rw [hs_]; clear hs_ σ'
        refine ok_lst23 72 rfl rfl rfl (ok_lload 73 rfl rfl rfl (ok_ldc2 74 (-1) rfl rfl kc_X2_29 (by decide) (ok_lcmp_eq 75 76 161 rfl rfl rfl rfl rfl (fun h136 => ?_) (fun h136 => ?_))))
        · refine ok_iconst 87 rfl rfl (by decide) (ok_zret 88 rfl rfl rfl (by first | omega | (simp [up_if]; omega) | (simp [up_if] at *; omega)) ?_)
          exact ⟨_, rfl, f.mono (fun c k q => by simp only [rgSu] at q; omega), (iT_cg hV (f v 1 (by simp only [rgSu]; omega)) (f v 2 (by simp only [rgSu]; omega)) (fun k => f (v + 4) k (by simp only [rgSu]; omega))).1, mT_cg hM (f v 1 (by simp only [rgSu]; omega)) (f v 3 (by simp only [rgSu]; omega)) (fun k => f (v + 4) k (by simp only [rgSu]; omega)), hS1, Or.inl rfl⟩
        · refine ok_lload 77 rfl rfl rfl (ok_ldc2 78 (-1) rfl rfl kc_X2_29 (by decide) (ok_lcmp_eq 79 80 161 rfl rfl rfl rfl rfl (fun h145 => ?_) (fun h145 => ?_)))
          · refine ok_iconst 87 rfl rfl (by decide) (ok_zret 88 rfl rfl rfl (by first | omega | (simp [up_if]; omega) | (simp [up_if] at *; omega)) ?_)
            exact ⟨_, rfl, f.mono (fun c k q => by simp only [rgSu] at q; omega), (iT_cg hV (f v 1 (by simp only [rgSu]; omega)) (f v 2 (by simp only [rgSu]; omega)) (fun k => f (v + 4) k (by simp only [rgSu]; omega))).1, mT_cg hM (f v 1 (by simp only [rgSu]; omega)) (f v 3 (by simp only [rgSu]; omega)) (fun k => f (v + 4) k (by simp only [rgSu]; omega)), hS1, Or.inl rfl⟩
          · refine ok_lload 81 rfl rfl rfl (ok_lload 82 rfl rfl rfl (ok_ladd 83 rfl rfl (by first | omega | (simp [up_if]; omega) | (simp [up_if] at *; omega)) (ok_ldc2 84 (1000000000000000) rfl rfl kc_X2_42 (by decide) (ok_lcmp_le 85 86 163 rfl rfl rfl rfl rfl (fun h157 => ?_) (fun h157 => ?_)))))
            · refine ok_aload_n 89 rfl rfl rfl (ok_getR 90 rfl rfl fl_X2_9 rfl rfl (ok_iload 91 rfl rfl rfl (ok_lload 92 rfl rfl rfl (ok_lload 93 rfl rfl rfl (ok_ladd 94 rfl rfl (by first | omega | (simp [up_if]; omega) | (simp [up_if] at *; omega)) (ok_last 95 rfl rfl rfl (by first | omega | (simp [up_if]; omega) | (simp [up_if] at *; omega)) (ok_inc19 96 rfl rfl rfl (by first | omega | (simp [up_if]; omega) | (simp [up_if] at *; omega)) (ok_goto 97 74 rfl rfl rfl ?_))))))))
              exact ok_fg [some (vr 14), some (vr t), some (vi x), some (vi y), some (vr u), some (vi a), some (vi b), some (vr v), some (vl p), none, some (vl q), none, some (vl g), none, some (vl d), none, some (vl e), none, some (vi i), some (vi (j + 1)), none, none, none, none, none] ⟨rfl, rfl, rfl, rfl, rfl, rfl, rfl, rfl, rfl, rfl, rfl, rfl, rfl, rfl, rfl, trivial⟩ (ih2 (j + 1) _ ⟨by omega, by omega, fr_up f rfl, up_su hS1 (by omega)⟩ (by omega))
            · refine ok_iconst 87 rfl rfl (by decide) (ok_zret 88 rfl rfl rfl (by first | omega | (simp [up_if]; omega) | (simp [up_if] at *; omega)) ?_)
              exact ⟨_, rfl, f.mono (fun c k q => by simp only [rgSu] at q; omega), (iT_cg hV (f v 1 (by simp only [rgSu]; omega)) (f v 2 (by simp only [rgSu]; omega)) (fun k => f (v + 4) k (by simp only [rgSu]; omega))).1, mT_cg hM (f v 1 (by simp only [rgSu]; omega)) (f v 3 (by simp only [rgSu]; omega)) (fun k => f (v + 4) k (by simp only [rgSu]; omega)), hS1, Or.inl rfl⟩
  · refine ok_iconst 23 rfl rfl (by decide) (ok_zret 24 rfl rfl rfl (by first | omega | (simp [up_if]; omega) | (simp [up_if] at *; omega)) ?_)
    exact ⟨_, rfl, fr.rf, hV, hM, hS, Or.inl rfl⟩
