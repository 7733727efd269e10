theorem isG_cg {g b n : Int} {f f' : Int → Int → Int} (h : isG g b n f) (e : ∀ i j, 0 ≤ i → i < n → 0 ≤ j → j < n → f i j = f' i j) : isG g b n f' :=
  ⟨h.1, h.2.1, fun i j p q r s => by rw [← e i j p q r s]; exact h.2.2.1 i j p q r s, fun m p q => h.2.2.2 m p (fun i j a c d w => by rw [e i j a c d w]; exact q i j a c d w)⟩
theorem MA_cg {σ ρ σ' : eS} {t : Nat} {n b z : Int} {f f' : Int → Int → Int} (h : MA ρ t n b f σ' z) (hr : ∀ c k, 2 ≤ c → c ≤ 9 → ρ c k = σ c k) (e : ∀ i j, 0 ≤ i → i < n → 0 ≤ j → j < n → f i j = f' i j) : MA σ t n b f' σ' z := by
  obtain ⟨g, h1, h2⟩ := h
  refine ⟨g, isG_cg h1 e, ?_⟩
  rcases h2 with ⟨a1, a2, a3⟩ | ⟨a1, a2, a3, a4, a5, a6⟩
  · exact Or.inl ⟨a1, fun q => a2 ((fitM_cg e).mpr q), fun c k x y w => by rw [a3 c k x y w]; exact hr c k x y⟩
  · exact Or.inr ⟨a1, (fitM_cg e).mp a2, a3, a4, fun i j p q r s => by rw [a5 i j p q r s, e i j p q r s], fun c k x y u w => by rw [a6 c k x y u w]; exact hr c k x y⟩
theorem t_Mk_multiplied {σ : eS} {p f : Int} (hp : 0 ≤ p) (hf : 0 ≤ f) : MtL shA M_Mk_multiplied [vl p, vl f] σ (fun σ' z => σ' = σ ∧ ((z = -1 ∧ 1000000000000000 < p * f) ∨ (z = p * f ∧ 0 ≤ p * f ∧ p * f ≤ 1000000000000000))) := by
  refine Mt.of okM_Mk_multiplied (Nat.le_of_ble_eq_true rfl) (fun hk hg => ?_)
  refine ok_lload_n 0 rfl rfl rfl (ok_lconst (w := 0) 1 rfl rfl rfl (by decide) (ok_lcmp_ne 2 3 8 rfl rfl rfl rfl rfl (fun h2 => ?_) (fun h2 => ?_)))
  · have p1 : 0 < p := by omega
    refine ok_lload_n 6 rfl rfl rfl (ok_ldc2 7 (1000000000000000) rfl rfl kc_X2_42 (by decide) (ok_lload_n 8 rfl rfl rfl (ok_ldiv 9 rfl rfl (by first | omega | (simp [up_if]; omega) | (simp [up_if] at *; omega)) (by first | omega | (simp [up_if]; omega) | (simp [up_if] at *; omega)) (ok_lcmp_le 10 11 24 rfl rfl rfl rfl rfl (fun h14 => ?_) (fun h14 => ?_)))))
    · have m : p * f ≤ 1000000000000000 := mul_le_div p1 h14
      have m0 : 0 ≤ p * f := Int.mul_nonneg hp hf
      refine ok_lload_n 14 rfl rfl rfl (ok_lload_n 15 rfl rfl rfl (ok_lmul 16 rfl rfl (by first | omega | (simp [up_if]; omega) | (simp [up_if] at *; omega)) (ok_lret 17 rfl rfl rfl ?_)))
      exact ⟨_, rfl, rfl, Or.inr ⟨rfl, m0, m⟩⟩
    · refine ok_ldc2 12 (-1) rfl rfl kc_X2_29 (by decide) (ok_goto 13 27 rfl rfl rfl (ok_lret 17 rfl rfl rfl ?_))
      refine ⟨_, rfl, rfl, Or.inl ⟨rfl, ?_⟩⟩
      rcases (by omega : 1000000000000000 < p * f ∨ p * f ≤ 1000000000000000) with q | q
      · exact q
      · rw [Int.mul_comm] at q
        have := Int.le_ediv_of_mul_le p1 q
        omega
  · refine ok_lconst (w := 0) 4 rfl rfl rfl (by decide) (ok_lret 5 rfl rfl rfl ?_)
    have p0 : p * f = 0 := by rw [show p = 0 by omega, Int.zero_mul]
    exact ⟨_, rfl, rfl, Or.inr ⟨by omega, by omega, by omega⟩⟩
/-- what a mixture's cells are, over the common number -/
def mxF (σ : eS) (t u : Nat) (x d a e : Int) : Int → Int → Int := fun i j => x * cT σ t i j * d + a * cT σ u i j * e
def MXA (σ : eS) (t u v : Nat) (x y a b : Int) (σ' : eS) (z : Int) : Prop :=
  (z = 0 ∧ tbS σ σ' ∧ lcS (y * σ t 2) (b * σ u 2) 1000000000 = -1) ∨
  (1 ≤ lcS (y * σ t 2) (b * σ u 2) 1000000000 ∧ ((z = 0 ∧ tbS σ σ' ∧ ∃ i j, 0 ≤ i ∧ i < σ t 1 ∧ 0 ≤ j ∧ j < σ t 1 ∧ 1000000000000000 < mxF σ t u x (lcS (y * σ t 2) (b * σ u 2) 1000000000 / (y * σ t 2)) a (lcS (y * σ t 2) (b * σ u 2) 1000000000 / (b * σ u 2)) i j) ∨
   ((∀ i j, 0 ≤ i → i < σ t 1 → 0 ≤ j → j < σ t 1 → mxF σ t u x (lcS (y * σ t 2) (b * σ u 2) 1000000000 / (y * σ t 2)) a (lcS (y * σ t 2) (b * σ u 2) 1000000000 / (b * σ u 2)) i j ≤ 1000000000000000) ∧ MA σ v (σ t 1) (lcS (y * σ t 2) (b * σ u 2) 1000000000) (mxF σ t u x (lcS (y * σ t 2) (b * σ u 2) 1000000000 / (y * σ t 2)) a (lcS (y * σ t 2) (b * σ u 2) 1000000000 / (b * σ u 2))) σ' z)))
theorem t_Mk_makeMixture {σ : eS} {t u v : Nat} {x y a b : Int} (ht : tA t) (hu : tA u) (hv : tA v) (hS : iSu σ) (hT : iT σ t) (hU : iT σ u) (hV : iT σ v) (hM : mT σ v) (hn : σ t 1 ≠ 0) (hnu : σ t 1 = σ u 1) (hx : 0 ≤ x ∧ x ≤ 9999 ∧ 1 ≤ y ∧ y ≤ 9999) (ha : 0 ≤ a ∧ a ≤ 9999 ∧ 1 ≤ b ∧ b ≤ 9999) : MtI shA M_Mk_makeMixture [vr 14, vr t, vi x, vi y, vr u, vi a, vi b, vr v] σ (fun σ' z => (fr (fun c _ => c = 15 ∨ c = v ∨ c = v + 4) σ σ' ∧ iT σ' v ∧ mT σ' v ∧ iSu σ' ∧ (z = 0 ∨ z = 1)) ∧ MXA σ t u v x y a b σ' z) := by
  refine Mt.of okM_Mk_makeMixture (Nat.le_of_ble_eq_true rfl) (fun hk hg => ?_)
  have nA := tA_10 ht
  have nB := tA_10 hu
  have nC := tA_10 hv
  have n1 := hT.1
  have n2 := hT.2.1
  have hB := hT.2.2.1 (by omega)
  have hB2 := hU.2.2.1 (by omega)
  have m1 := mul_bd2 (a := y) (b := σ t 2) (A := 9999) (B := 999999) ⟨by omega, by omega⟩ ⟨by omega, by omega⟩
  have m2 := mul_bd2 (a := b) (b := σ u 2) (A := 9999) (B := 999999) ⟨by omega, by omega⟩ ⟨by omega, by omega⟩
  have m3 : 0 < y * σ t 2 := Int.mul_pos (by omega) (by omega)
  have m4 : 0 < b * σ u 2 := Int.mul_pos (by omega) (by omega)
  unfold MXA
  refine ok_iload_n 0 rfl rfl rfl (ok_i2l 1 rfl rfl (ok_aload_n 2 rfl rfl rfl (ok_getI 3 rfl rfl fl_X2_15 (sT ht) rfl (Or.inl rfl) (ok_i2l 4 rfl rfl (ok_lmul 5 rfl rfl (by first | omega | (simp [up_if]; omega) | (simp [up_if] at *; omega)) (ok_lst8 6 rfl rfl rfl (ok_iload 7 rfl rfl rfl (ok_i2l 8 rfl rfl (ok_aload 9 rfl rfl rfl (ok_getI 10 rfl rfl fl_X2_15 (sT hu) rfl (Or.inl rfl) (ok_i2l 11 rfl rfl (ok_lmul 12 rfl rfl (by first | omega | (simp [up_if]; omega) | (simp [up_if] at *; omega)) (ok_lst10 13 rfl rfl rfl (ok_lload 14 rfl rfl rfl (ok_lload 15 rfl rfl rfl (ok_ldc2 16 (1000000000) rfl rfl kc_X2_21 (by decide) (ok_callSL (M' := M_Nu_leastMultiple) (as := [_, _, _]) 17 rfl rfl ml_X2_23 (t_Nu_leastMultiple (by omega) (by omega) (by omega)) ⟨Nat.le_of_ble_eq_true rfl, Nat.le_of_ble_eq_true rfl⟩ rfl (Nat.le_of_ble_eq_true rfl) (fun σ' g hg1 => ?_))))))))))))))))))
  obtain ⟨hs_, hg1⟩ := hg1
  rw [hs_]; clear hs_ σ'
  refine ok_lst12 18 rfl rfl rfl (ok_lload 19 rfl rfl rfl (ok_ldc2 20 (-1) rfl rfl kc_X2_29 (by decide) (ok_lcmp_ne 21 22 45 rfl rfl rfl rfl rfl (fun h39 => ?_) (fun h39 => ?_))))
  · have g1 : 1 ≤ g ∧ g ≤ 1000000000 := by omega
    rw [← hg1.1]
    clear hg1
    obtain ⟨p, ep⟩ : ∃ p : Int, p = y * σ t 2 := ⟨_, rfl⟩
    obtain ⟨q, eq⟩ : ∃ q : Int, q = b * σ u 2 := ⟨_, rfl⟩
    rw [← ep, ← eq]
    have d1 : 0 ≤ g / p := Int.ediv_nonneg (by omega) (by omega)
    have d2 : 0 ≤ g / q := Int.ediv_nonneg (by omega) (by omega)
    obtain ⟨d, ed⟩ : ∃ d : Int, d = g / p := ⟨_, rfl⟩
    obtain ⟨e, ee⟩ : ∃ e : Int, e = g / q := ⟨_, rfl⟩
    rw [← ed, ← ee]
    rw [← ed] at d1
    rw [← ee] at d2
    obtain ⟨F, eF⟩ : ∃ F, F = mxF σ t u x d a e := ⟨_, rfl⟩
    have hF : ∀ i j, F i j = x * σ (t + 4) (i * 8 + j) * d + a * σ (u + 4) (i * 8 + j) * e := fun i j => by rw [eF]; rfl
    rw [← eF]
    clear eF
    refine ok_lload 25 rfl rfl rfl (ok_lload 26 rfl rfl rfl (ok_ldiv 27 rfl rfl (by first | omega | (simp [up_if]; omega) | (simp [up_if] at *; omega)) (by first | omega | (simp [up_if]; omega) | (simp [up_if] at *; omega)) (ok_lst14 28 rfl rfl rfl (ok_lload 29 rfl rfl rfl (ok_lload 30 rfl rfl rfl (ok_ldiv 31 rfl rfl (by first | omega | (simp [up_if]; omega) | (simp [up_if] at *; omega)) (by first | omega | (simp [up_if]; omega) | (simp [up_if] at *; omega)) (ok_lst16 32 rfl rfl rfl (ok_iconst 33 rfl rfl (by decide) (ok_ist18 34 rfl rfl rfl ?_)))))))))
    rw [← ed, ← ee]
    refine lpO2 (fun (i : Int) (_ : eS) => [some (vr 14), some (vr t), some (vi x), some (vi y), some (vr u), some (vi a), some (vi b), some (vr v), some (vl p), none, some (vl q), none, some (vl g), none, some (vl d), none, some (vl e), none, some (vi i), none, none, none, none, none, none]) (fun _ ρ => ρ) (fun i ρ => 0 ≤ i ∧ i ≤ 8 ∧ fr rgSu σ ρ ∧ iSu ρ ∧ ∀ X Y, 0 ≤ X → X < i → 0 ≤ Y → Y < σ t 1 → ρ 15 (X * 8 + Y) = F X Y ∧ F X Y ≤ 1000000000000000) (fun i _ => (8 - i).toNat) ?_ 0 σ ⟨by omega, by omega, fr.rf, hS, fun X Y p q => by omega⟩
    clear ed ee ep eq m1 m2 m3 m4 h39
    rintro i ρ ⟨i1, i2, f, hS1, hX⟩ ih
    have e1 : ρ t 1 = σ t 1 := f t 1 (by simp only [rgSu]; omega)
    refine ok_iload 35 rfl rfl rfl (ok_aload_n 36 rfl rfl rfl (ok_getI 37 rfl rfl fl_X2_31 (sT ht) rfl (Or.inl rfl) (ok_icmp_ge 38 187 rfl rfl rfl (fun h68 => ?_) (fun h68 => ?_))))
    · have x1 : ∀ k, ρ (v + 4) k = σ (v + 4) k := fun k => f _ _ (by simp only [rgSu]; omega)
      have x2 : ∀ k, ρ v k = σ v k := fun k => f _ _ (by simp only [rgSu]; omega)
      refine ok_aload_n 100 rfl rfl rfl (ok_lload 101 rfl rfl rfl (ok_aload_n 102 rfl rfl rfl (ok_getI 103 rfl rfl fl_X2_31 (sT ht) rfl (Or.inl rfl) (ok_aload 104 rfl rfl rfl (ok_callVI (M' := M_Mk_bring) (as := [_, _, _]) 105 rfl rfl ml_X2_44 (t_Mk_bring hv (by omega) ⟨by omega, by omega⟩ hS1 (iT_cg hV (x2 1) (x2 2) x1).1 (mT_cg hM (x2 1) (x2 3) x1)) rfl rfl (Nat.le_of_ble_eq_true rfl) ⟨Nat.le_of_ble_eq_true rfl, Nat.le_of_ble_eq_true rfl⟩ rfl (Nat.le_of_ble_eq_true rfl) (fun τ z hz => ?_))))))
      refine ok_zret 106 rfl rfl rfl hz.2.2.2.1 ?_
      refine ⟨_, rfl, ⟨(f.mono (fun c k q => by simp only [rgSu] at q; omega)).tr (hz.1.mono (fun c k q => by simp only [rgBr] at q; omega)), hz.2.1, hz.2.2.1, iSu_cg hS1 (fun k => hz.1 15 k (by simp only [rgBr]; omega)), hz.2.2.2.1⟩, Or.inr ⟨g1.1, Or.inr ⟨fun X Y p q r s => (hX X Y p (by omega) r s).2, ?_⟩⟩⟩
      have hm := hz.2.2.2.2
      rw [e1] at hm
      exact MA_cg hm (fun c k p q => f c k (by simp only [rgSu]; omega)) (fun X Y p q r s => (hX X Y p (by omega) r s).1)
    · refine ok_iconst 39 rfl rfl (by decide) (ok_ist19 40 rfl rfl rfl ?_)
      have il : i < σ t 1 := by omega
      clear h68
      refine lpO2 (fun (j : Int) (_ : eS) => [some (vr 14), some (vr t), some (vi x), some (vi y), some (vr u), some (vi a), some (vi b), some (vr v), some (vl p), none, some (vl q), none, some (vl g), none, some (vl d), none, some (vl e), none, some (vi i), some (vi j), none, none, none, none, none]) (fun _ ρ => ρ) (fun j ρ => 0 ≤ j ∧ j ≤ 8 ∧ fr rgSu σ ρ ∧ iSu ρ ∧ ∀ X Y, 0 ≤ X → 0 ≤ Y → Y < σ t 1 → (X < i ∨ (X = i ∧ Y < j)) → ρ 15 (X * 8 + Y) = F X Y ∧ F X Y ≤ 1000000000000000) (fun j _ => (8 - j).toNat) ?_ 0 ρ ⟨by omega, by omega, f, hS1, fun X Y p q r s => hX X Y p (by omega) q r⟩
      clear e1 f hS1 hX ρ
      rintro j ρ ⟨j1, j2, f, hS1, hX⟩ ih2
      have e1 : ρ t 1 = σ t 1 := f t 1 (by simp only [rgSu]; omega)
      refine ok_iload 41 rfl rfl rfl (ok_aload_n 42 rfl rfl rfl (ok_getI 43 rfl rfl fl_X2_31 (sT ht) rfl (Or.inl rfl) (ok_icmp_ge 44 181 rfl rfl rfl (fun h80 => ?_) (fun h80 => ?_))))
      · refine ok_inc18 98 rfl rfl rfl (by first | omega | (simp [up_if]; omega) | (simp [up_if] at *; omega)) (ok_goto 99 62 rfl rfl rfl ?_)
        exact ok_fg [some (vr 14), some (vr t), some (vi x), some (vi y), some (vr u), some (vi a), some (vi b), some (vr v), some (vl p), none, some (vl q), none, some (vl g), none, some (vl d), none, some (vl e), none, some (vi (i + 1)), none, none, none, none, none, none] ⟨rfl, rfl, rfl, rfl, rfl, rfl, rfl, rfl, rfl, rfl, rfl, rfl, rfl, rfl, trivial⟩ (ih (i + 1) ρ ⟨by omega, by omega, f, hS1, fun X Y p q r s => hX X Y p r s (by omega)⟩ (by omega))
      · have c1 := hT.2.2.2 (i * 8 + j) (by omega) (by omega)
        have q1 : ρ (t + 4) (i * 8 + j) = σ (t + 4) (i * 8 + j) := f (t + 4) (i * 8 + j) (by simp only [rgSu]; omega)
        have q2 : ρ (u + 4) (i * 8 + j) = σ (u + 4) (i * 8 + j) := f (u + 4) (i * 8 + j) (by simp only [rgSu]; omega)
        rw [← q1] at c1
        have c2 := hU.2.2.2 (i * 8 + j) (by omega) (by omega)
        rw [← q2] at c2
        have mm := mul_bd2 (a := x) (b := ρ (t + 4) (i * 8 + j)) (A := 9999) (B := 99999999) ⟨by omega, by omega⟩ c1
        have mm2 := mul_bd2 (a := a) (b := ρ (u + 4) (i * 8 + j)) (A := 9999) (B := 99999999) ⟨by omega, by omega⟩ c2
        have hFi := hF i j
        rw [← q1, ← q2] at hFi
        have k1 := Int.mul_nonneg mm.1 d1
        have k2 := Int.mul_nonneg mm2.1 d2
        refine ok_iload 45 rfl rfl rfl (ok_bipush 46 rfl rfl (by decide) (by decide) (ok_imul 47 rfl rfl (by first | omega | (simp [up_if]; omega) | (simp [up_if] at *; omega)) (ok_iload 48 rfl rfl rfl (ok_iadd 49 rfl rfl (by first | omega | (simp [up_if]; omega) | (simp [up_if] at *; omega)) (ok_ist20 50 rfl rfl rfl (ok_iload_n 51 rfl rfl rfl (ok_i2l 52 rfl rfl (ok_aload_n 53 rfl rfl rfl (ok_getR 54 rfl rfl fl_X2_34 (sT ht) rfl (ok_iload 55 rfl rfl rfl (ok_iald 56 rfl rfl (sC ht) (by first | omega | (simp [up_if]; omega) | (simp [up_if] at *; omega)) (ok_i2l 57 rfl rfl (ok_lmul 58 rfl rfl (by first | omega | (simp [up_if]; omega) | (simp [up_if] at *; omega)) (ok_lload 59 rfl rfl rfl (ok_callSL (M' := M_Mk_multiplied) (as := [_, _]) 60 rfl rfl ml_X2_38 (t_Mk_multiplied mm.1 d1) ⟨Nat.le_of_ble_eq_true rfl, Nat.le_of_ble_eq_true rfl⟩ rfl (Nat.le_of_ble_eq_true rfl) (fun σ' z1 r1 => ?_))))))))))))))))
        obtain ⟨hs_, r1⟩ := r1
        rw [hs_]; clear hs_ σ'
        refine ok_lst21 61 rfl rfl rfl (ok_iload 62 rfl rfl rfl (ok_i2l 63 rfl rfl (ok_aload 64 rfl rfl rfl (ok_getR 65 rfl rfl fl_X2_34 (sT hu) rfl (ok_iload 66 rfl rfl rfl (ok_iald 67 rfl rfl (sC hu) (by first | omega | (simp [up_if]; omega) | (simp [up_if] at *; omega)) (ok_i2l 68 rfl rfl (ok_lmul 69 rfl rfl (by first | omega | (simp [up_if]; omega) | (simp [up_if] at *; omega)) (ok_lload 70 rfl rfl rfl (ok_callSL (M' := M_Mk_multiplied) (as := [_, _]) 71 rfl rfl ml_X2_38 (t_Mk_multiplied mm2.1 d2) ⟨Nat.le_of_ble_eq_true rfl, Nat.le_of_ble_eq_true rfl⟩ rfl (Nat.le_of_ble_eq_true rfl) (fun σ' z2 r2 => ?_)))))))))))
        obtain ⟨hs_, r2⟩ := r2
        rw [hs_]; clear hs_ σ'
        refine ok_lst23 72 rfl rfl rfl (ok_lload 73 rfl rfl rfl (ok_ldc2 74 (-1) rfl rfl kc_X2_29 (by decide) (ok_lcmp_eq 75 76 161 rfl rfl rfl rfl rfl (fun h136 => ?_) (fun h136 => ?_))))
        · refine ok_iconst 87 rfl rfl (by decide) (ok_zret 88 rfl rfl rfl (by first | omega | (simp [up_if]; omega) | (simp [up_if] at *; omega)) ?_)
          refine ⟨_, rfl, ⟨f.mono (fun c k q => by simp only [rgSu] at q; omega), (iT_cg hV (f v 1 (by simp only [rgSu]; omega)) (f v 2 (by simp only [rgSu]; omega)) (fun k => f (v + 4) k (by simp only [rgSu]; omega))).1, mT_cg hM (f v 1 (by simp only [rgSu]; omega)) (f v 3 (by simp only [rgSu]; omega)) (fun k => f (v + 4) k (by simp only [rgSu]; omega)), hS1, Or.inl rfl⟩, Or.inr ⟨g1.1, Or.inl ⟨rfl, fun c k p q r => f c k (by simp only [rgSu]; omega), i, j, i1, il, j1, by omega, by omega⟩⟩⟩
        · refine ok_lload 77 rfl rfl rfl (ok_ldc2 78 (-1) rfl rfl kc_X2_29 (by decide) (ok_lcmp_eq 79 80 161 rfl rfl rfl rfl rfl (fun h145 => ?_) (fun h145 => ?_)))
          · refine ok_iconst 87 rfl rfl (by decide) (ok_zret 88 rfl rfl rfl (by first | omega | (simp [up_if]; omega) | (simp [up_if] at *; omega)) ?_)
            refine ⟨_, rfl, ⟨f.mono (fun c k q => by simp only [rgSu] at q; omega), (iT_cg hV (f v 1 (by simp only [rgSu]; omega)) (f v 2 (by simp only [rgSu]; omega)) (fun k => f (v + 4) k (by simp only [rgSu]; omega))).1, mT_cg hM (f v 1 (by simp only [rgSu]; omega)) (f v 3 (by simp only [rgSu]; omega)) (fun k => f (v + 4) k (by simp only [rgSu]; omega)), hS1, Or.inl rfl⟩, Or.inr ⟨g1.1, Or.inl ⟨rfl, fun c k p q r => f c k (by simp only [rgSu]; omega), i, j, i1, il, j1, by omega, by omega⟩⟩⟩
          · refine ok_lload 81 rfl rfl rfl (ok_lload 82 rfl rfl rfl (ok_ladd 83 rfl rfl (by first | omega | (simp [up_if]; omega) | (simp [up_if] at *; omega)) (ok_ldc2 84 (1000000000000000) rfl rfl kc_X2_42 (by decide) (ok_lcmp_le 85 86 163 rfl rfl rfl rfl rfl (fun h157 => ?_) (fun h157 => ?_)))))
            · refine ok_aload_n 89 rfl rfl rfl (ok_getR 90 rfl rfl fl_X2_9 rfl rfl (ok_iload 91 rfl rfl rfl (ok_lload 92 rfl rfl rfl (ok_lload 93 rfl rfl rfl (ok_ladd 94 rfl rfl (by first | omega | (simp [up_if]; omega) | (simp [up_if] at *; omega)) (ok_last 95 rfl rfl rfl (by first | omega | (simp [up_if]; omega) | (simp [up_if] at *; omega)) (ok_inc19 96 rfl rfl rfl (by first | omega | (simp [up_if]; omega) | (simp [up_if] at *; omega)) (ok_goto 97 74 rfl rfl rfl ?_))))))))
              refine ok_fg [some (vr 14), some (vr t), some (vi x), some (vi y), some (vr u), some (vi a), some (vi b), some (vr v), some (vl p), none, some (vl q), none, some (vl g), none, some (vl d), none, some (vl e), none, some (vi i), some (vi (j + 1)), none, none, none, none, none] ⟨rfl, rfl, rfl, rfl, rfl, rfl, rfl, rfl, rfl, rfl, rfl, rfl, rfl, rfl, rfl, trivial⟩ (ih2 (j + 1) _ ⟨by omega, by omega, fr_up f rfl, up_su hS1 (by omega), fun X Y p q r s => ?_⟩ (by omega))
              rcases (by omega : (X < i ∨ (X = i ∧ Y < j)) ∨ (X = i ∧ Y = j)) with w | w
              · rw [up_nk _ _ _ _ (by omega)]; exact hX X Y p q r w
              · rw [w.1, w.2, up_same]; exact ⟨by omega, by omega⟩
            · refine ok_iconst 87 rfl rfl (by decide) (ok_zret 88 rfl rfl rfl (by first | omega | (simp [up_if]; omega) | (simp [up_if] at *; omega)) ?_)
              refine ⟨_, rfl, ⟨f.mono (fun c k q => by simp only [rgSu] at q; omega), (iT_cg hV (f v 1 (by simp only [rgSu]; omega)) (f v 2 (by simp only [rgSu]; omega)) (fun k => f (v + 4) k (by simp only [rgSu]; omega))).1, mT_cg hM (f v 1 (by simp only [rgSu]; omega)) (f v 3 (by simp only [rgSu]; omega)) (fun k => f (v + 4) k (by simp only [rgSu]; omega)), hS1, Or.inl rfl⟩, Or.inr ⟨g1.1, Or.inl ⟨rfl, fun c k p q r => f c k (by simp only [rgSu]; omega), i, j, i1, il, j1, by omega, by omega⟩⟩⟩
  · refine ok_iconst 23 rfl rfl (by decide) (ok_zret 24 rfl rfl rfl (by first | omega | (simp [up_if]; omega) | (simp [up_if] at *; omega)) ?_)
    exact ⟨_, rfl, ⟨fr.rf, hV, hM, hS, Or.inl rfl⟩, Or.inl ⟨rfl, fun _ _ _ _ _ => rfl, by omega⟩⟩
def pdF (σ : eS) (t u : Nat) : Int → Int → Int := fun i j => sm (fun k => cT σ t i k * cT σ u k j) (σ t 1).toNat
theorem t_Mk_makeProduct {σ : eS} {t u v : Nat} (ht : tA t) (hu : tA u) (hv : tA v) (hS : iSu σ) (hT : iT σ t) (hU : iT σ u) (hV : iT σ v) (hM : mT σ v) (hn : σ t 1 ≠ 0) (hnu : σ t 1 = σ u 1) : MtI shA M_Mk_makeProduct [vr 14, vr t, vr u, vr v] σ (fun σ' z => (fr (fun c _ => c = 15 ∨ c = v ∨ c = v + 4) σ σ' ∧ iT σ' v ∧ mT σ' v ∧ iSu σ' ∧ (z = 0 ∨ z = 1)) ∧ MA σ v (σ t 1) (σ t 2 * σ u 2) (pdF σ t u) σ' z) := by
  refine Mt.of okM_Mk_makeProduct (Nat.le_of_ble_eq_true rfl) (fun hk hg => ?_)
  have nA := tA_10 ht
  have nB := tA_10 hu
  have nC := tA_10 hv
  have n1 := hT.1
  have n2 := hT.2.1
  have hB := hT.2.2.1 (by omega)
  have hB2 := hU.2.2.1 (by omega)
  refine ok_iconst 0 rfl rfl (by decide) (ok_ist4 1 rfl rfl rfl ?_)
  refine lpO2 (fun (i : Int) (_ : eS) => [some (vr 14), some (vr t), some (vr u), some (vr v), some (vi i), none, none, none, none]) (fun _ ρ => ρ) (fun i ρ => 0 ≤ i ∧ i ≤ 8 ∧ fr rgSu σ ρ ∧ iSu ρ ∧ ∀ X Y, 0 ≤ X → X < i → 0 ≤ Y → Y < σ t 1 → ρ 15 (X * 8 + Y) = pdF σ t u X Y) (fun i _ => (8 - i).toNat) ?_ 0 σ ⟨by omega, by omega, fr.rf, hS, fun X Y p q => by omega⟩
  rintro i ρ ⟨i1, i2, f, hS1, hX⟩ ih
  have e1 : ρ t 1 = σ t 1 := f t 1 (by simp only [rgSu]; omega)
  refine ok_iload 2 rfl rfl rfl (ok_aload_n 3 rfl rfl rfl (ok_getI 4 rfl rfl fl_X2_31 (sT ht) rfl (Or.inl rfl) (ok_icmp_ge 5 106 rfl rfl rfl (fun h9 => ?_) (fun h9 => ?_))))
  · have e2 : ρ t 2 = σ t 2 := f t 2 (by simp only [rgSu]; omega)
    have e3 : ρ u 2 = σ u 2 := f u 2 (by simp only [rgSu]; omega)
    have x1 : ∀ k, ρ (v + 4) k = σ (v + 4) k := fun k => f _ _ (by simp only [rgSu]; omega)
    have x2 : ∀ k, ρ v k = σ v k := fun k => f _ _ (by simp only [rgSu]; omega)
    have mm := mul_bd2 (a := ρ t 2) (b := ρ u 2) (A := 999999) (B := 999999) ⟨by omega, by omega⟩ ⟨by omega, by omega⟩
    have mp := Int.mul_pos (by omega : 0 < ρ t 2) (by omega : 0 < ρ u 2)
    refine ok_aload_n 57 rfl rfl rfl (ok_aload_n 58 rfl rfl rfl (ok_getI 59 rfl rfl fl_X2_15 (sT ht) rfl (Or.inl rfl) (ok_i2l 60 rfl rfl (ok_aload_n 61 rfl rfl rfl (ok_getI 62 rfl rfl fl_X2_15 (sT hu) rfl (Or.inl rfl) (ok_i2l 63 rfl rfl (ok_lmul 64 rfl rfl (by first | omega | (simp [up_if]; omega) | (simp [up_if] at *; omega)) (ok_aload_n 65 rfl rfl rfl (ok_getI 66 rfl rfl fl_X2_31 (sT ht) rfl (Or.inl rfl) (ok_aload_n 67 rfl rfl rfl (ok_callVI (M' := M_Mk_bring) (as := [_, _, _]) 68 rfl rfl ml_X2_44 (t_Mk_bring hv (by omega) ⟨by omega, by omega⟩ hS1 (iT_cg hV (x2 1) (x2 2) x1).1 (mT_cg hM (x2 1) (x2 3) x1)) rfl rfl (Nat.le_of_ble_eq_true rfl) ⟨Nat.le_of_ble_eq_true rfl, Nat.le_of_ble_eq_true rfl⟩ rfl (Nat.le_of_ble_eq_true rfl) (fun τ z hz => ?_))))))))))))
    refine ok_zret 69 rfl rfl rfl hz.2.2.2.1 ?_
    refine ⟨_, rfl, ⟨(f.mono (fun c k q => by simp only [rgSu] at q; omega)).tr (hz.1.mono (fun c k q => by simp only [rgBr] at q; omega)), hz.2.1, hz.2.2.1, iSu_cg hS1 (fun k => hz.1 15 k (by simp only [rgBr]; omega)), hz.2.2.2.1⟩, ?_⟩
    have hm := hz.2.2.2.2
    rw [e1, e2, e3] at hm
    exact MA_cg hm (fun c k p q => f c k (by simp only [rgSu]; omega)) (fun X Y p q r s => hX X Y p (by omega) r s)
  · refine ok_iconst 6 rfl rfl (by decide) (ok_ist5 7 rfl rfl rfl ?_)
    have il : i < σ t 1 := by omega
    clear h9
    refine lpO2 (fun (j : Int) (_ : eS) => [some (vr 14), some (vr t), some (vr u), some (vr v), some (vi i), some (vi j), none, none, none]) (fun _ ρ => ρ) (fun j ρ => 0 ≤ j ∧ j ≤ 8 ∧ fr rgSu σ ρ ∧ iSu ρ ∧ ∀ X Y, 0 ≤ X → 0 ≤ Y → Y < σ t 1 → (X < i ∨ (X = i ∧ Y < j)) → ρ 15 (X * 8 + Y) = pdF σ t u X Y) (fun j _ => (8 - j).toNat) ?_ 0 ρ ⟨by omega, by omega, f, hS1, fun X Y p q r s => hX X Y p (by omega) q r⟩
    clear e1 f hS1 hX ρ
    rintro j ρ ⟨j1, j2, f, hS1, hX⟩ ih2
    have e1 : ρ t 1 = σ t 1 := f t 1 (by simp only [rgSu]; omega)
    refine ok_iload 8 rfl rfl rfl (ok_aload_n 9 rfl rfl rfl (ok_getI 10 rfl rfl fl_X2_31 (sT ht) rfl (Or.inl rfl) (ok_icmp_ge 11 100 rfl rfl rfl (fun h21 => ?_) (fun h21 => ?_))))
    · refine ok_inc4 55 rfl rfl rfl (by first | omega | (simp [up_if]; omega) | (simp [up_if] at *; omega)) (ok_goto 56 3 rfl rfl rfl ?_)
      exact ok_fg [some (vr 14), some (vr t), some (vr u), some (vr v), some (vi (i + 1)), none, none, none, none] ⟨rfl, rfl, rfl, rfl, rfl, trivial⟩ (ih (i + 1) ρ ⟨by omega, by omega, f, hS1, fun X Y p q r s => hX X Y p r s (by omega)⟩ (by omega))
    · refine ok_lconst (w := 0) 12 rfl rfl rfl (by decide) (ok_lst6 13 rfl rfl rfl (ok_iconst 14 rfl rfl (by decide) (ok_ist8 15 rfl rfl rfl ?_)))
      have jl : j < σ t 1 := by omega
      clear h21
      refine lpO2 (fun (s k : Int) => [some (vr 14), some (vr t), some (vr u), some (vr v), some (vi i), some (vi j), some (vl s), none, some (vi k)]) (fun _ _ => ρ) (fun s k => 0 ≤ k ∧ k ≤ σ t 1 ∧ 0 ≤ s ∧ s ≤ k * 9999999800000001 ∧ s = sm (fun k => cT σ t i k * cT σ u k j) k.toNat) (fun _ k => (8 - k).toNat) ?_ 0 0 ⟨by omega, by omega, by omega, by omega, rfl⟩
      rintro s k ⟨k1, k2, s1, s2, s3⟩ ih3
      have es := sm_s (fun k => cT σ t i k * cT σ u k j) k1
      refine ok_iload 16 rfl rfl rfl (ok_aload_n 17 rfl rfl rfl (ok_getI 18 rfl rfl fl_X2_31 (sT ht) rfl (Or.inl rfl) (ok_icmp_ge 19 79 rfl rfl rfl (fun h36 => ?_) (fun h36 => ?_))))
      · refine ok_aload_n 44 rfl rfl rfl (ok_getR 45 rfl rfl fl_X2_9 rfl rfl (ok_iload 46 rfl rfl rfl (ok_bipush 47 rfl rfl (by decide) (by decide) (ok_imul 48 rfl rfl (by first | omega | (simp [up_if]; omega) | (simp [up_if] at *; omega)) (ok_iload 49 rfl rfl rfl (ok_iadd 50 rfl rfl (by first | omega | (simp [up_if]; omega) | (simp [up_if] at *; omega)) (ok_lload 51 rfl rfl rfl (ok_last 52 rfl rfl rfl (by first | omega | (simp [up_if]; omega) | (simp [up_if] at *; omega)) (ok_inc5 53 rfl rfl rfl (by first | omega | (simp [up_if]; omega) | (simp [up_if] at *; omega)) (ok_goto 54 15 rfl rfl rfl ?_))))))))))
        refine ok_fg [some (vr 14), some (vr t), some (vr u), some (vr v), some (vi i), some (vi (j + 1)), none, none, none] ⟨rfl, rfl, rfl, rfl, rfl, rfl, trivial⟩ (ih2 (j + 1) _ ⟨by omega, by omega, fr_up f rfl, up_su hS1 s1, fun X Y p q r w => ?_⟩ (by omega))
        rcases (by omega : (X < i ∨ (X = i ∧ Y < j)) ∨ (X = i ∧ Y = j)) with x | x
        · rw [up_nk _ _ _ _ (by omega)]; exact hX X Y p q r x
        · rw [x.1, x.2, up_same, s3, show k = σ t 1 by omega]; rfl
      · have c1 := hT.2.2.2 (i * 8 + k) (by omega) (by omega)
        have q1 : ρ (t + 4) (i * 8 + k) = cT σ t i k := f (t + 4) (i * 8 + k) (by simp only [rgSu]; omega)
        have q2 : ρ (u + 4) (k * 8 + j) = cT σ u k j := f (u + 4) (k * 8 + j) (by simp only [rgSu]; omega)
        rw [← f (t + 4) (i * 8 + k) (by simp only [rgSu]; omega)] at c1
        have c2 := hU.2.2.2 (k * 8 + j) (by omega) (by omega)
        rw [← f (u + 4) (k * 8 + j) (by simp only [rgSu]; omega)] at c2
        have mm := mul_bd2 c1 c2
        refine ok_lload 20 rfl rfl rfl (ok_aload_n 21 rfl rfl rfl (ok_getR 22 rfl rfl fl_X2_34 (sT ht) rfl (ok_iload 23 rfl rfl rfl (ok_bipush 24 rfl rfl (by decide) (by decide) (ok_imul 25 rfl rfl (by first | omega | (simp [up_if]; omega) | (simp [up_if] at *; omega)) (ok_iload 26 rfl rfl rfl (ok_iadd 27 rfl rfl (by first | omega | (simp [up_if]; omega) | (simp [up_if] at *; omega)) (ok_iald 28 rfl rfl (sC ht) (by first | omega | (simp [up_if]; omega) | (simp [up_if] at *; omega)) (ok_i2l 29 rfl rfl (ok_aload_n 30 rfl rfl rfl (ok_getR 31 rfl rfl fl_X2_34 (sT hu) rfl (ok_iload 32 rfl rfl rfl (ok_bipush 33 rfl rfl (by decide) (by decide) (ok_imul 34 rfl rfl (by first | omega | (simp [up_if]; omega) | (simp [up_if] at *; omega)) (ok_iload 35 rfl rfl rfl (ok_iadd 36 rfl rfl (by first | omega | (simp [up_if]; omega) | (simp [up_if] at *; omega)) (ok_iald 37 rfl rfl (sC hu) (by first | omega | (simp [up_if]; omega) | (simp [up_if] at *; omega)) (ok_i2l 38 rfl rfl (ok_lmul 39 rfl rfl (by first | omega | (simp [up_if]; omega) | (simp [up_if] at *; omega)) (ok_ladd 40 rfl rfl (by first | omega | (simp [up_if]; omega) | (simp [up_if] at *; omega)) (ok_lst6 41 rfl rfl rfl (ok_inc8 42 rfl rfl rfl (by first | omega | (simp [up_if]; omega) | (simp [up_if] at *; omega)) (ok_goto 43 30 rfl rfl rfl ?_)))))))))))))))))))))))
        exact ih3 _ (k + 1) ⟨by omega, by omega, by omega, by omega, by rw [es, ← s3, q1, q2]⟩ (by omega)
