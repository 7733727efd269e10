theorem iB1_frS {σ τ : eS} {P : Nat → Int → Prop} (h : iB1 σ) (f : fr P σ τ) (hp : ∀ c k, (c = 1 ∨ c = 2 ∨ c = 3 ∨ c = 4) → ¬ P c k) : iB1 τ := h.fr (fun c k q => f c k (hp c k q))
theorem left_pos {σ : eS} {x : Int} (h : nW σ) (he : EvW (σ 0 22) (wk σ) x) (hex : ∃ k, 0 ≤ k ∧ k < σ 0 22 * σ 0 22 ∧ 0 < σ 9 k) : 1 ≤ x ∧ 1 ≤ np σ := by
  obtain ⟨k, a, b, c⟩ := hex
  obtain ⟨n1, n2⟩ := h
  refine ⟨?_, np_pos a b c⟩
  have g1 := Int.mul_ediv_add_emod k (σ 0 22)
  have g2 := Int.emod_nonneg k (by omega : σ 0 22 ≠ 0)
  have g3 := Int.emod_lt_of_pos k (by omega : 0 < σ 0 22)
  have g4 : k / σ 0 22 < σ 0 22 := Int.ediv_lt_of_lt_mul (by omega) (by omega)
  have g5 : 0 ≤ k / σ 0 22 := Int.ediv_nonneg a (by omega)
  have g6 := EvW_bd he ⟨g5, g4⟩ ⟨g2, g3⟩
  unfold wk at g6
  rw [g1] at g6
  omega
theorem left_or {σ : eS} {z : Int} (hz : (z = 1 ∧ ∃ k, 0 ≤ k ∧ k < σ 0 22 * σ 0 22 ∧ 0 < σ 9 k) ∨ (z = 0 ∧ ∀ k, 0 ≤ k → k < σ 0 22 * σ 0 22 → σ 9 k ≤ 0)) (h : ¬ z = 0) : ∃ k, 0 ≤ k ∧ k < σ 0 22 * σ 0 22 ∧ 0 < σ 9 k := by
  rcases hz with q | q
  · exact q.2
  · exact absurd q.1 h
theorem evB_fr {σ τ : eS} {s : Int} (h : evB σ s) (f : ∀ (c : Nat) (k : Int), (c = 1 ∨ c = 3) → τ c k = σ c k) : evB τ s ∧ rowB τ s 0 = rowB σ s 0 ∧ τ 1 s = σ 1 s := by
  have e1 : ∀ k, τ 1 k = σ 1 k := fun k => f 1 k (Or.inl rfl)
  have e3 : ∀ k, τ 3 k = σ 3 k := fun k => f 3 k (Or.inr rfl)
  have er : rowB τ s = rowB σ s := by funext i; unfold rowB cB; simp only [e1, e3]
  have ec : colB τ s = colB σ s := by funext i; unfold colB cB; simp only [e1, e3]
  unfold evB tabB
  rw [er, ec, e1]
  exact ⟨h, rfl, rfl⟩
theorem s_Mo_sought {σ : eS} {s w : Int} (hB : iB1 σ) : MtI shB M_Mo_sought [vr 0, vi s, vi w] σ (fun σ' _ => fr rgS σ σ') := by
  refine Mt.of okM_Mo_sought (Nat.le_of_ble_eq_true rfl) (fun hk hg => ?_)
  refine ok_aload_n 0 rfl rfl rfl (ok_iload_n 1 rfl rfl rfl (ok_callVI (M' := M_Mo_isEven) (as := [_]) 2 rfl rfl ml_X12_202 (s_Mo_isEven hB) rfl rfl (Nat.le_of_ble_eq_true rfl) ⟨Nat.le_of_ble_eq_true rfl, Nat.le_of_ble_eq_true rfl⟩ rfl (Nat.le_of_ble_eq_true rfl) (fun σ' z1 a1 => ?_)))
  obtain ⟨hs_, a1⟩ := a1
  rw [hs_]; clear hs_ σ'
  refine ok_if_eq 3 30 rfl rfl rfl (fun h5 => ?_) (fun h5 => ?_)
  · refine ok_iconst 16 rfl rfl (by decide) (ok_iret 17 rfl rfl rfl ?_)
    exact ⟨_, rfl, fr.rf⟩
  · obtain ⟨u1, u2, u3⟩ := (yes1 a1 h5).1
    refine ok_aload_n 4 rfl rfl rfl (ok_getR 5 rfl rfl fl_X12_7 rfl rfl (ok_iload_n 6 rfl rfl rfl (ok_iald 7 rfl rfl rfl (by first | omega | (simp [up_if]; omega) | (simp [up_if] at *; omega)) (ok_iconst 8 rfl rfl (by decide) (ok_icmp_gt 9 30 rfl rfl rfl (fun h15 => ?_) (fun h15 => ?_))))))
    · refine ok_iconst 16 rfl rfl (by decide) (ok_iret 17 rfl rfl rfl ?_)
      exact ⟨_, rfl, fr.rf⟩
    · refine ok_iload_n 10 rfl rfl rfl (ok_i2l 11 rfl rfl (ok_lconst (w := 0) 12 rfl rfl rfl (by decide) (ok_ldc2 13 (4) rfl rfl kc_X12_318 (by decide) (ok_callSI (M' := M_Mo_isIn) (as := [_, _, _]) 14 rfl rfl ml_X12_99 (s_Mo_isIn_r) ⟨Nat.le_of_ble_eq_true rfl, Nat.le_of_ble_eq_true rfl⟩ rfl (Nat.le_of_ble_eq_true rfl) (fun σ' z2 a2 => ?_)))))
      obtain ⟨hs_, a2⟩ := a2
      rw [hs_]; clear hs_ σ'
      refine ok_if_ne 15 32 rfl rfl rfl (fun h27 => ?_) (fun h27 => ?_)
      · refine ok_iconst 18 rfl rfl (by decide) (ok_ist3 19 rfl rfl rfl (ok_iconst 20 rfl rfl (by decide) (ok_ist4 21 rfl rfl rfl (ok_iconst 22 rfl rfl (by decide) (ok_ist5 23 rfl rfl rfl ?_)))))
        have he := yes1 a1 h5
        have hw := yes1 a2 h27
        have tn := hB.1 s u1 u2
        have rb := rowB_bd hB ⟨u1, u2⟩ (i := 0) ⟨by omega, by omega⟩
        obtain ⟨m, em⟩ : ∃ m, m = rowB σ s 0 := ⟨_, rfl⟩
        have hm1 := he.2.1
        rw [← em] at rb hm1
        refine lpO4 (fun (b p k : Int) (_ : eS) => [some (vr 0), some (vi s), some (vi w), some (vi b), some (vi p), some (vi k), none]) (fun _ _ _ ρ => ρ) (fun _ p k ρ => fr rgS σ ρ ∧ 0 ≤ k ∧ k ≤ 256) (fun _ _ k _ => (256 - k).toNat) ?_ (-1) 0 0 σ ⟨fr.rf, by omega, by omega⟩
        rintro b p k ρ ⟨f, k1, k2⟩ ih
        have hB' : iB1 ρ := iB1_frS hB f (fun c k q => by simp only [rgS]; omega)
        obtain ⟨he', er, e1⟩ := evB_fr he (τ := ρ) (fun c k q => f c k (by simp only [rgS]; omega))
        refine ok_iload 24 rfl rfl rfl (ok_sipush 25 rfl rfl (by decide) (by decide) (ok_icmp_ge 26 125 rfl rfl rfl (fun h45 => ?_) (fun h45 => ?_)))
        · refine ok_iload_n 64 rfl rfl rfl (ok_if_ne 65 134 rfl rfl rfl (fun h126 => ?_) (fun h126 => ?_))
          · refine ok_iload_n 68 rfl rfl rfl (ok_iload_n 69 rfl rfl rfl (ok_iconst 70 rfl rfl (by decide) (ok_isub 71 rfl rfl (by first | omega | (simp [up_if]; omega) | (simp [up_if] at *; omega)) (ok_callSI (M' := M_Mo_ruleOf) (as := [_, _]) 72 rfl rfl ml_X12_320 (s_Mo_ruleOf ⟨by omega, by omega⟩) ⟨Nat.le_of_ble_eq_true rfl, Nat.le_of_ble_eq_true rfl⟩ rfl (Nat.le_of_ble_eq_true rfl) (fun σ' z hz => ?_)))))
            rw [hz.1, hz.2]
            clear hz z σ'
            refine ok_iret 73 rfl rfl rfl ?_
            exact ⟨_, rfl, f⟩
          · refine ok_iload 66 rfl rfl rfl (ok_goto 67 141 rfl rfl rfl (ok_iret 73 rfl rfl rfl ?_))
            exact ⟨_, rfl, f⟩
        · refine ok_aload_n 27 rfl rfl rfl (ok_iload_n 28 rfl rfl rfl (ok_callVV (M' := M_Mo_worksOn) (as := [_]) 29 rfl rfl ml_X12_294 (s_Mo_worksOn hB' he'.1) rfl rfl (Nat.le_of_ble_eq_true rfl) ⟨Nat.le_of_ble_eq_true rfl, Nat.le_of_ble_eq_true rfl⟩ rfl (Nat.le_of_ble_eq_true rfl) (fun σ' hz => ?_)))
          rw [hz]
          clear hz σ'
          have hev := wo_ev hB' he'
          have g := f.tr (wo_fr ρ s (ρ 1 s) (ρ 1 s * ρ 1 s))
          have e22 : wo ρ s (ρ 1 s) (ρ 1 s * ρ 1 s) 0 22 = ρ 1 s := by simp [wo]
          obtain ⟨τ, eτ⟩ : ∃ τ, τ = wo ρ s (ρ 1 s) (ρ 1 s * ρ 1 s) := ⟨_, rfl⟩
          rw [← eτ] at hev g e22 ⊢
          rw [er, ← em, ← e22] at hev
          clear eτ
          refine ok_iconst 30 rfl rfl (by decide) (ok_ist6 31 rfl rfl rfl ?_)
          refine lpO3 (fun (c _ : Int) (_ : eS) => [some (vr 0), some (vi s), some (vi w), some (vi b), some (vi p), some (vi k), some (vi c)]) (fun _ _ υ => υ) (fun c x υ => fr rgS σ υ ∧ 0 ≤ c ∧ c + np υ ≤ 64 ∧ 0 ≤ x ∧ x ≤ m ∧ υ 0 22 = τ 0 22 ∧ EvW (υ 0 22) (wk υ) x) (fun c _ _ => (64 - c).toNat) ?_ 0 m τ ⟨g, by omega, by have := np_bd τ ⟨by omega, by omega⟩; omega, by omega, by omega, rfl, hev⟩
          rintro c x υ ⟨g1, c1, c2, x1, x2, f22, ev⟩ ih2
          have hnW : nW υ := ⟨by omega, by omega⟩
          have npb := np_bd υ hnW
          refine ok_aload_n 32 rfl rfl rfl (ok_callVI (M' := M_Mo_isLeft) (as := []) 33 rfl rfl ml_X12_285 (s_Mo_isLeft hnW) rfl rfl (Nat.le_of_ble_eq_true rfl) ⟨Nat.le_of_ble_eq_true rfl, Nat.le_of_ble_eq_true rfl⟩ rfl (Nat.le_of_ble_eq_true rfl) (fun σ' z hz => ?_))
          obtain ⟨hs_, hz⟩ := hz
          rw [hs_]; clear hs_ σ'
          refine ok_if_eq 34 97 rfl rfl rfl (fun h60 => ?_) (fun h60 => ?_)
          · clear hz
            refine ok_iload_n 51 rfl rfl rfl (ok_iconst 52 rfl rfl (by decide) (ok_icmp_eq 53 112 rfl rfl rfl (fun h99 => ?_) (fun h99 => ?_)))
            · refine ok_iload 58 rfl rfl rfl (ok_ist3 59 rfl rfl rfl (ok_iload 60 rfl rfl rfl (ok_ist4 61 rfl rfl rfl (ok_inc5 62 rfl rfl rfl (by first | omega | (simp [up_if]; omega) | (simp [up_if] at *; omega)) (ok_goto 63 40 rfl rfl rfl ?_)))))
              exact ok_fg [some (vr 0), some (vi s), some (vi w), some (vi _), some (vi _), some (vi (k + 1)), none] ⟨rfl, rfl, rfl, rfl, rfl, rfl, trivial⟩ (ih _ _ (k + 1) υ ⟨g1, by omega, by omega⟩ (by omega))
            · refine ok_iload 54 rfl rfl rfl (ok_iload 55 rfl rfl rfl (ok_icmp_lt 56 112 rfl rfl rfl (fun h106 => ?_) (fun h106 => ?_)))
              · refine ok_iload 58 rfl rfl rfl (ok_ist3 59 rfl rfl rfl (ok_iload 60 rfl rfl rfl (ok_ist4 61 rfl rfl rfl (ok_inc5 62 rfl rfl rfl (by first | omega | (simp [up_if]; omega) | (simp [up_if] at *; omega)) (ok_goto 63 40 rfl rfl rfl ?_)))))
                exact ok_fg [some (vr 0), some (vi s), some (vi w), some (vi _), some (vi _), some (vi (k + 1)), none] ⟨rfl, rfl, rfl, rfl, rfl, rfl, trivial⟩ (ih _ _ (k + 1) υ ⟨g1, by omega, by omega⟩ (by omega))
              · refine ok_goto 57 119 rfl rfl rfl (ok_inc5 62 rfl rfl rfl (by first | omega | (simp [up_if]; omega) | (simp [up_if] at *; omega)) (ok_goto 63 40 rfl rfl rfl ?_))
                exact ok_fg [some (vr 0), some (vi s), some (vi w), some (vi _), some (vi _), some (vi (k + 1)), none] ⟨rfl, rfl, rfl, rfl, rfl, rfl, trivial⟩ (ih _ _ (k + 1) υ ⟨g1, by omega, by omega⟩ (by omega))
          · obtain ⟨xp, np1⟩ := left_pos hnW ev (left_or hz h60)
            clear hz
            refine ok_iload 35 rfl rfl rfl (ok_aload_n 36 rfl rfl rfl (ok_iload 37 rfl rfl rfl (ok_iload 38 rfl rfl rfl (ok_iconst 39 rfl rfl (by decide) (ok_mmin 40 rfl rfl ml_X12_271 ⟨Nat.le_of_ble_eq_true rfl, Nat.le_of_ble_eq_true rfl⟩ (ok_callSI (M' := M_Mo_ruleOf) (as := [_, _]) 41 rfl rfl ml_X12_320 (s_Mo_ruleOf ⟨by omega, by omega⟩) ⟨Nat.le_of_ble_eq_true rfl, Nat.le_of_ble_eq_true rfl⟩ rfl (Nat.le_of_ble_eq_true rfl) (fun σ' z hz => ?_)))))))
            rw [hz.1, hz.2]
            clear hz z σ'
            refine ok_callVI (M' := M_Mo_peels) (as := [_]) 42 rfl rfl ml_X12_288 (s_Mo_peels hnW ev ⟨xp, by omega⟩) rfl rfl (Nat.le_of_ble_eq_true rfl) ⟨Nat.le_of_ble_eq_true rfl, Nat.le_of_ble_eq_true rfl⟩ rfl (Nat.le_of_ble_eq_true rfl) (fun υ' z' hz => ?_)
            obtain ⟨y1, y2, y3, y4, y5, -⟩ := hz
            refine ok_if_le 43 87 rfl rfl rfl (fun h80 => ?_) (fun h80 => ?_)
            · refine ok_iconst 46 rfl rfl (by decide) (ok_callSI (M' := M_Mo_one) (as := [_]) 47 rfl rfl ml_X12_192 (s_Mo_one) ⟨Nat.le_of_ble_eq_true rfl, Nat.le_of_ble_eq_true rfl⟩ rfl (Nat.le_of_ble_eq_true rfl) (fun σ' z hz => ?_))
              rw [hz.1, hz.2]
              clear hz z σ'
              refine ok_iadd 48 rfl rfl (by first | omega | (simp [up_if]; omega) | (simp [up_if] at *; omega)) (ok_ist6 49 rfl rfl rfl (ok_goto 50 56 rfl rfl rfl ?_))
              first | (exfalso; omega) | exact ih2 (c + 1) (x - z') υ' ⟨g1.tr (y3.mono (fun c k q => by simp only [rgS]; omega)), by omega, by omega, by omega, by omega, by rw [y3 0 22 (by omega)]; exact f22, by rw [y3 0 22 (by omega)]; exact y4⟩ (by omega)
            · refine ok_iconst 44 rfl rfl (by decide) (ok_goto 45 88 rfl rfl rfl (ok_callSI (M' := M_Mo_one) (as := [_]) 47 rfl rfl ml_X12_192 (s_Mo_one) ⟨Nat.le_of_ble_eq_true rfl, Nat.le_of_ble_eq_true rfl⟩ rfl (Nat.le_of_ble_eq_true rfl) (fun σ' z hz => ?_)))
              rw [hz.1, hz.2]
              clear hz z σ'
              refine ok_iadd 48 rfl rfl (by first | omega | (simp [up_if]; omega) | (simp [up_if] at *; omega)) (ok_ist6 49 rfl rfl rfl (ok_goto 50 56 rfl rfl rfl ?_))
              first | (exfalso; omega) | exact ih2 (c + 1) (x - z') υ' ⟨g1.tr (y3.mono (fun c k q => by simp only [rgS]; omega)), by omega, by omega, by omega, by omega, by rw [y3 0 22 (by omega)]; exact f22, by rw [y3 0 22 (by omega)]; exact y4⟩ (by omega)
      · refine ok_iconst 16 rfl rfl (by decide) (ok_iret 17 rfl rfl rfl ?_)
        exact ⟨_, rfl, fr.rf⟩
