theorem s_Pe_startShop {σ : eS} {p q t : Nat} (hp : pP p q) (ht : tA t) (hT : iT σ t) (hn4 : σ t 1 ≤ 4) : MtV shA M_Pe_startShop [vr p, vr t] σ (fun σ' => fr (rgP0 p q) σ σ' ∧ iPe σ' p q ∧ σ' p 2 = 2 * σ t 1 ∧ 0 ≤ σ' p 3 ∧ σ' p 3 ≤ 799999992) := by
  refine Mt.of okM_Pe_startShop (Nat.le_of_ble_eq_true rfl) (fun hk hg => ?_)
  obtain ⟨n0, n1, n2, n3, n4⟩ := pP_n hp
  have nA := tA_10 ht
  have m1 := hT.1
  refine ok_aload_n 0 rfl rfl rfl (ok_getI 1 rfl rfl fl_X5_41 (sT ht) rfl (Or.inl rfl) (ok_ist2 2 rfl rfl rfl (ok_aload_n 3 rfl rfl rfl (ok_callVI (M' := M_Ta_greatestSum) (as := []) 4 rfl rfl ml_X5_45 (s_Ta_greatestSum ht hT) (sT ht) rfl (Nat.le_of_ble_eq_true rfl) ⟨Nat.le_of_ble_eq_true rfl, Nat.le_of_ble_eq_true rfl⟩ rfl (Nat.le_of_ble_eq_true rfl) (fun σ' L hL => ?_)))))
  obtain ⟨hs_, hL⟩ := hL
  rw [hs_]; clear hs_ σ'
  refine ok_ist3 5 rfl rfl rfl (ok_aload_n 6 rfl rfl rfl (ok_getR 7 rfl rfl fl_X5_9 (sP hp) rfl (ok_iconst 8 rfl rfl (by decide) (ok_callSV (M' := M_Ja_fill) (as := [_, _]) 9 rfl rfl ml_X5_49 (s_Ja_fill (sQ hp) (by decide)) ⟨Nat.le_of_ble_eq_true rfl, Nat.le_of_ble_eq_true rfl⟩ rfl (Nat.le_of_ble_eq_true rfl) (fun τ f => ?_)))))
  refine ok_iconst 10 rfl rfl (by decide) (ok_ist4 11 rfl rfl rfl ?_)
  obtain ⟨L1, L2, L3⟩ := hL
  refine lpO2 (fun (i : Int) (_ : eS) => [some (vr p), some (vr t), some (vi (σ t 1)), some (vi L), some (vi i), none, none]) (fun _ ρ => ρ) (fun i ρ => 0 ≤ i ∧ i ≤ σ t 1 ∧ fr (fun c _ => c = q) σ ρ ∧ ∀ k, 0 ≤ k → k < 64 → 0 ≤ ρ q k) (fun i _ => (8 - i).toNat) ?_ 0 τ ⟨by omega, by omega, f.1, fun k a b => by rw [f.2 k a b]; decide⟩
  clear f τ
  rintro i ρ ⟨i1, i2, f, hc⟩ ih
  refine ok_iload 12 rfl rfl rfl (ok_iload_n 13 rfl rfl rfl (ok_icmp_ge 14 143 rfl rfl rfl (fun h24 => ?_) (fun h24 => ?_)))
  · refine ok_aload_n 85 rfl rfl rfl (ok_iconst 86 rfl rfl (by decide) (ok_iload_n 87 rfl rfl rfl (ok_imul 88 rfl rfl (by first | omega | (simp [up_if]; omega) | (simp [up_if] at *; omega)) (ok_putI 89 rfl rfl fl_X5_15 (sP hp) rfl rfl rfl (ok_aload_n 90 rfl rfl rfl (ok_iload_n 91 rfl rfl rfl (ok_putI 92 rfl rfl fl_X5_19 (sP hp) rfl rfl rfl (ok_aload_n 93 rfl rfl rfl (ok_iconst 94 rfl rfl (by decide) (ok_putI 95 rfl rfl fl_X5_22 (sP hp) rfl rfl rfl (ok_vret 96 rfl rfl rfl ?_)))))))))))
    refine ⟨rfl, fr_up (fr_up (fr_up (f.mono (fun c k w => Or.inr w)) (by simp [rgP0])) (by simp [rgP0])) (by simp [rgP0]), ⟨?_, fun k a b => ?_⟩, ?_, ?_, ?_⟩
    · rw [up_nk _ _ _ _ (by decide), up_nk _ _ _ _ (by decide), up_same]; omega
    · rw [up_ne _ _ _ _ (Ne.symm n1), up_ne _ _ _ _ (Ne.symm n1), up_ne _ _ _ _ (Ne.symm n1)]; exact hc k a b
    · rw [up_nk _ _ _ _ (by decide), up_nk _ _ _ _ (by decide), up_same]
    · rw [up_nk _ _ _ _ (by decide), up_same]; exact L1
    · rw [up_nk _ _ _ _ (by decide), up_same]; exact L2
  · refine ok_iconst 15 rfl rfl (by decide) (ok_ist5 16 rfl rfl rfl ?_)
    have il : i < σ t 1 := by omega
    refine lpO2 (fun (j : Int) (_ : eS) => [some (vr p), some (vr t), some (vi (σ t 1)), some (vi L), some (vi i), some (vi j), none]) (fun _ ρ => ρ) (fun j ρ => 0 ≤ j ∧ j ≤ σ t 1 ∧ fr (fun c _ => c = q) σ ρ ∧ ∀ k, 0 ≤ k → k < 64 → 0 ≤ ρ q k) (fun j _ => (8 - j).toNat) ?_ 0 ρ ⟨by omega, by omega, f, hc⟩
    clear f hc ρ
    rintro j ρ ⟨j1, j2, f, hc⟩ ih2
    have hup : ∀ (υ : eS) (x z : Int), (∀ k, 0 ≤ k → k < 64 → 0 ≤ υ q k) → 0 ≤ z → ∀ k, 0 ≤ k → k < 64 → 0 ≤ up υ q x z q k := fun υ x z h hz k a b => by
      rw [up_if]
      by_cases y : k = x
      · rw [if_pos ⟨rfl, y⟩]; exact hz
      · rw [if_neg (fun w => y w.2)]; exact h k a b
    refine ok_iload 17 rfl rfl rfl (ok_iload_n 18 rfl rfl rfl (ok_icmp_ge 19 91 rfl rfl rfl (fun h33 => ?_) (fun h33 => ?_)))
    · have x1 := iT_cg hT (f t 1 (by omega)) (f t 2 (by omega)) (fun k => f (t + 4) k (by omega))
      have r1 := rowT_bd hT (i := i) ⟨i1, by omega⟩
      have r2 := colT_bd hT (i := i) ⟨i1, by omega⟩
      have r3 := L3 i i1 il
      refine ok_aload_n 53 rfl rfl rfl (ok_getR 54 rfl rfl fl_X5_9 (sP hp) rfl (ok_iload 55 rfl rfl rfl (ok_bipush 56 rfl rfl (by decide) (by decide) (ok_imul 57 rfl rfl (by first | omega | (simp [up_if]; omega) | (simp [up_if] at *; omega)) (ok_iload_n 58 rfl rfl rfl (ok_iadd 59 rfl rfl (by first | omega | (simp [up_if]; omega) | (simp [up_if] at *; omega)) (ok_iload 60 rfl rfl rfl (ok_iadd 61 rfl rfl (by first | omega | (simp [up_if]; omega) | (simp [up_if] at *; omega)) (ok_iload_n 62 rfl rfl rfl (ok_aload_n 63 rfl rfl rfl (ok_iload 64 rfl rfl rfl (ok_callVI (M' := M_Ta_sumOfRow) (as := [_]) 65 rfl rfl ml_X5_55 (s_Ta_sumOfRow ht x1.1 ⟨i1, by omega⟩) (sT ht) rfl (Nat.le_of_ble_eq_true rfl) ⟨Nat.le_of_ble_eq_true rfl, Nat.le_of_ble_eq_true rfl⟩ rfl (Nat.le_of_ble_eq_true rfl) (fun σ' z hz => ?_)))))))))))))
      rw [hz.1, hz.2]
      clear hz z σ'
      rw [x1.2.1]
      refine ok_isub 66 rfl rfl (by first | omega | (simp [up_if]; omega) | (simp [up_if] at *; omega)) (ok_iast 67 rfl rfl (sQ hp) (by first | omega | (simp [up_if]; omega) | (simp [up_if] at *; omega)) ?_)
      have f2 : fr (fun c _ => c = q) σ (up ρ q (i * 8 + σ t 1 + i) (L - rowT σ t i)) := fr_up f rfl
      have x2 := iT_cg hT (f2 t 1 (by omega)) (f2 t 2 (by omega)) (fun k => f2 (t + 4) k (by omega))
      refine ok_aload_n 68 rfl rfl rfl (ok_getR 69 rfl rfl fl_X5_9 (sP hp) rfl (ok_iload_n 70 rfl rfl rfl (ok_iload 71 rfl rfl rfl (ok_iadd 72 rfl rfl (by first | omega | (simp [up_if]; omega) | (simp [up_if] at *; omega)) (ok_bipush 73 rfl rfl (by decide) (by decide) (ok_imul 74 rfl rfl (by first | omega | (simp [up_if]; omega) | (simp [up_if] at *; omega)) (ok_iload 75 rfl rfl rfl (ok_iadd 76 rfl rfl (by first | omega | (simp [up_if]; omega) | (simp [up_if] at *; omega)) (ok_iload_n 77 rfl rfl rfl (ok_aload_n 78 rfl rfl rfl (ok_iload 79 rfl rfl rfl (ok_callVI (M' := M_Ta_sumOfColumn) (as := [_]) 80 rfl rfl ml_X5_59 (s_Ta_sumOfColumn ht x2.1 ⟨i1, by omega⟩) (sT ht) rfl (Nat.le_of_ble_eq_true rfl) ⟨Nat.le_of_ble_eq_true rfl, Nat.le_of_ble_eq_true rfl⟩ rfl (Nat.le_of_ble_eq_true rfl) (fun σ' z hz => ?_)))))))))))))
      rw [hz.1, hz.2]
      clear hz z σ'
      rw [x2.2.2]
      refine ok_isub 81 rfl rfl (by first | omega | (simp [up_if]; omega) | (simp [up_if] at *; omega)) (ok_iast 82 rfl rfl (sQ hp) (by first | omega | (simp [up_if]; omega) | (simp [up_if] at *; omega)) (ok_inc4 83 rfl rfl rfl (by first | omega | (simp [up_if]; omega) | (simp [up_if] at *; omega)) (ok_goto 84 21 rfl rfl rfl ?_)))
      exact ok_fg [some (vr p), some (vr t), some (vi (σ t 1)), some (vi L), some (vi (i + 1)), none, none] ⟨rfl, rfl, rfl, rfl, rfl, trivial⟩ (ih (i + 1) _ ⟨by omega, by omega, fr_up f2 rfl, hup _ _ _ (hup _ _ _ hc (by omega)) (by omega)⟩ (by omega))
    · refine ok_aload_n 20 rfl rfl rfl (ok_getR 21 rfl rfl fl_X5_32 (sT ht) rfl (ok_iload 22 rfl rfl rfl (ok_bipush 23 rfl rfl (by decide) (by decide) (ok_imul 24 rfl rfl (by first | omega | (simp [up_if]; omega) | (simp [up_if] at *; omega)) (ok_iload 25 rfl rfl rfl (ok_iadd 26 rfl rfl (by first | omega | (simp [up_if]; omega) | (simp [up_if] at *; omega)) (ok_iald 27 rfl rfl (sC ht) (by first | omega | (simp [up_if]; omega) | (simp [up_if] at *; omega)) (ok_ist6 28 rfl rfl rfl (ok_aload_n 29 rfl rfl rfl (ok_getR 30 rfl rfl fl_X5_9 (sP hp) rfl (ok_iload 31 rfl rfl rfl (ok_bipush 32 rfl rfl (by decide) (by decide) (ok_imul 33 rfl rfl (by first | omega | (simp [up_if]; omega) | (simp [up_if] at *; omega)) (ok_iload 34 rfl rfl rfl (ok_iadd 35 rfl rfl (by first | omega | (simp [up_if]; omega) | (simp [up_if] at *; omega)) (ok_iload 36 rfl rfl rfl (ok_iast 37 rfl rfl (sQ hp) (by first | omega | (simp [up_if]; omega) | (simp [up_if] at *; omega)) (ok_aload_n 38 rfl rfl rfl (ok_getR 39 rfl rfl fl_X5_9 (sP hp) rfl (ok_iload_n 40 rfl rfl rfl (ok_iload 41 rfl rfl rfl (ok_iadd 42 rfl rfl (by first | omega | (simp [up_if]; omega) | (simp [up_if] at *; omega)) (ok_bipush 43 rfl rfl (by decide) (by decide) (ok_imul 44 rfl rfl (by first | omega | (simp [up_if]; omega) | (simp [up_if] at *; omega)) (ok_iload_n 45 rfl rfl rfl (ok_iadd 46 rfl rfl (by first | omega | (simp [up_if]; omega) | (simp [up_if] at *; omega)) (ok_iload 47 rfl rfl rfl (ok_iadd 48 rfl rfl (by first | omega | (simp [up_if]; omega) | (simp [up_if] at *; omega)) (ok_iload 49 rfl rfl rfl (ok_iast 50 rfl rfl (sQ hp) (by first | omega | (simp [up_if]; omega) | (simp [up_if] at *; omega)) (ok_inc5 51 rfl rfl rfl (by first | omega | (simp [up_if]; omega) | (simp [up_if] at *; omega)) (ok_goto 52 30 rfl rfl rfl ?_))))))))))))))))))))))))))))))))
      have c := (hT.2.2.2 (i * 8 + j) (by omega) (by omega)).1
      rw [← f (t + 4) (i * 8 + j) (by omega)] at c
      exact ok_fg [some (vr p), some (vr t), some (vi (σ t 1)), some (vi L), some (vi i), some (vi (j + 1)), none] ⟨rfl, rfl, rfl, rfl, rfl, rfl, trivial⟩ (ih2 (j + 1) _ ⟨by omega, by omega, fr_up (fr_up f rfl) rfl, hup _ _ _ (hup _ _ _ hc c) c⟩ (by omega))
theorem s_Mi_start {σ : eS} {a b c d : Int} : MtV shA M_Mi_start [vr 22, vi a, vi b, vi c, vi d] σ (fun σ' => fr (fun c k => c = 22 ∧ 2 ≤ k ∧ k ≤ 6) σ σ' ∧ σ' 22 3 = b ∧ σ' 22 4 = c ∧ σ' 22 5 = 0 ∧ σ' 22 6 = d) := by
  refine Mt.of okM_Mi_start (Nat.le_of_ble_eq_true rfl) (fun hk hg => ?_)
  refine ok_aload_n 0 rfl rfl rfl (ok_iload_n 1 rfl rfl rfl (ok_putI 2 rfl rfl fl_X3_18 rfl rfl rfl rfl (ok_aload_n 3 rfl rfl rfl (ok_iload_n 4 rfl rfl rfl (ok_putI 5 rfl rfl fl_X3_22 rfl rfl rfl rfl (ok_aload_n 6 rfl rfl rfl (ok_iload_n 7 rfl rfl rfl (ok_putI 8 rfl rfl fl_X3_25 rfl rfl rfl rfl (ok_aload_n 9 rfl rfl rfl (ok_iload 10 rfl rfl rfl (ok_putI 11 rfl rfl fl_X3_31 rfl rfl rfl rfl (ok_aload_n 12 rfl rfl rfl (ok_iconst 13 rfl rfl (by decide) (ok_putI 14 rfl rfl fl_X3_28 rfl rfl rfl rfl (ok_vret 15 rfl rfl rfl ?_)))))))))))))))
  exact ⟨rfl, fr_up (fr_up (fr_up (fr_up (fr_up fr.rf (by simp)) (by simp)) (by simp)) (by simp)) (by simp), by simp [up_if], by simp [up_if], by simp [up_if], by simp [up_if]⟩
def sW (σ : eS) : Int := sm (fun k => σ 23 k) (σ 22 5).toNat
abbrev rgMi : Nat → Int → Prop := fun c k => (c = 22 ∧ k = 5) ∨ c = 23 ∨ c = 24
theorem s_Mi_add {σ : eS} {w : Int} (h : iMi σ) (hC : iCh σ) (hw : 0 ≤ w) (hs : sW σ + w ≤ σ 22 6) : MtV shA M_Mi_add [vr 22, vi w, vr 17] σ (fun σ' => fr rgMi σ σ' ∧ iMi σ' ∧ sW σ' ≤ sW σ + w) := by
  refine Mt.of okM_Mi_add (Nat.le_of_ble_eq_true rfl) (fun hk hg => ?_)
  obtain ⟨⟨h1, h2, h3, h4, h5, h6, h7⟩, a, b, d⟩ := id h
  refine ok_iload_n 0 rfl rfl rfl (ok_iconst 1 rfl rfl (by decide) (ok_icmp_lt 2 14 rfl rfl rfl (fun h2 => ?_) (fun h2 => ?_)))
  · refine ok_vret 7 rfl rfl rfl ?_
    exact ⟨rfl, fr.rf, h, by omega⟩
  · refine ok_aload_n 3 rfl rfl rfl (ok_getI 4 rfl rfl fl_X3_28 rfl rfl (Or.inl rfl) (ok_bipush 5 rfl rfl (by decide) (by decide) (ok_icmp_lt 6 15 rfl rfl rfl (fun h11 => ?_) (fun h11 => ?_))))
    · refine ok_aload_n 8 rfl rfl rfl (ok_getR 9 rfl rfl fl_X3_9 rfl rfl (ok_aload_n 10 rfl rfl rfl (ok_getI 11 rfl rfl fl_X3_28 rfl rfl (Or.inl rfl) (ok_iload_n 12 rfl rfl rfl (ok_iast 13 rfl rfl rfl (by first | omega | (simp [up_if]; omega) | (simp [up_if] at *; omega)) (ok_aload_n 14 rfl rfl rfl (ok_iconst 15 rfl rfl (by decide) (ok_aload_n 16 rfl rfl rfl (ok_getR 17 rfl rfl fl_X3_15 rfl rfl (ok_aload_n 18 rfl rfl rfl (ok_getI 19 rfl rfl fl_X3_28 rfl rfl (Or.inl rfl) (ok_bipush 20 rfl rfl (by decide) (by decide) (ok_imul 21 rfl rfl (by first | omega | (simp [up_if]; omega) | (simp [up_if] at *; omega)) (ok_bipush 22 rfl rfl (by decide) (by decide) (ok_copy 23 rfl rfl (wd3 175 rfl rfl) ⟨Nat.le_of_ble_eq_true rfl, Nat.le_of_ble_eq_true rfl⟩ rfl rfl (by decide) (by simp [up_if]; omega) (by decide) (by decide) (by simp [up_if]; omega) ?_)))))))))))))))
      obtain ⟨τ, eτ⟩ : ∃ τ, τ = cp (up σ 23 (σ 22 5) w) 17 0 24 (up σ 23 (σ 22 5) w 22 5 * 8) 8 := ⟨_, rfl⟩
      rw [← eτ]
      have e0 : up σ 23 (σ 22 5) w 22 5 = σ 22 5 := up_ne _ _ _ _ (by decide)
      rw [e0] at eτ
      have f : fr rgMi σ τ := by rw [eτ]; exact (fr_up (P := rgMi) fr.rf (by simp [rgMi])).tr (fr_cp (fun k _ _ => by simp [rgMi]))
      have e22 : ∀ k, τ 22 k = σ 22 k := fun k => by rw [eτ]; unfold cp; rw [if_neg (by omega), up_ne _ _ _ _ (by decide)]
      have e23 : ∀ k, k ≠ σ 22 5 → τ 23 k = σ 23 k := fun k q => by rw [eτ]; unfold cp; rw [if_neg (by omega), up_nk _ _ _ _ q]
      have e23s : τ 23 (σ 22 5) = w := by rw [eτ]; unfold cp; rw [if_neg (by omega), up_same]
      have e24 : ∀ k : Int, 0 ≤ k → k < 512 → 0 ≤ τ 24 k ∧ τ 24 k ≤ 7 := fun k x y => by
        rw [eτ]
        unfold cp
        by_cases q : (24 : Nat) = 24 ∧ σ 22 5 * 8 ≤ k ∧ k < σ 22 5 * 8 + 8
        · rw [if_pos q, up_ne _ _ _ _ (by decide)]; exact hC _ (by omega) (by omega)
        · rw [if_neg q, up_ne _ _ _ _ (by decide)]; exact b k x y
      have es := sm_s (fun k => τ 23 k) (j := σ 22 5) h1
      have ec : sm (fun k => τ 23 k) (σ 22 5).toNat = sW σ := sm_cg (fun k x y => e23 k (by omega))
      simp only [e23s, ec] at es
      have e225 := e22 5
      refine ok_aload_n 24 rfl rfl rfl (ok_dup 25 rfl rfl rfl (ok_getI 26 rfl rfl fl_X3_28 rfl rfl (Or.inl rfl) (ok_iconst 27 rfl rfl (by decide) (ok_iadd 28 rfl rfl (by first | omega | (simp [up_if]; omega) | (simp [up_if] at *; omega)) (ok_putI 29 rfl rfl fl_X3_28 rfl rfl rfl rfl (ok_vret 30 rfl rfl rfl ?_))))))
      refine ⟨rfl, fr_up f (by simp [rgMi]), ⟨?_, ?_, ?_, ?_⟩, ?_⟩
      · simp only [up_if, e22]; simp; omega
      · intro k x y
        rw [up_same, e22] at y
        rw [up_ne _ _ _ _ (by decide)]
        rcases (by omega : k = σ 22 5 ∨ k < σ 22 5) with q | q
        · rw [q, e23s]; exact hw
        · rw [e23 k (by omega)]; exact a k x q
      · intro k x y
        rw [up_ne _ _ _ _ (by decide)]
        exact e24 k x y
      · rw [up_same, e22, up_nk _ _ _ _ (by decide), e22, show (fun k => up τ 22 5 (σ 22 5 + 1) 23 k) = (fun k => τ 23 k) by funext k; exact up_ne _ _ _ _ (by decide), es]; exact hs
      · unfold sW
        rw [up_same, e22, show (fun k => up τ 22 5 (σ 22 5 + 1) 23 k) = (fun k => τ 23 k) by funext k; exact up_ne _ _ _ _ (by decide), es]
        exact Int.le_refl _
    · refine ok_vret 7 rfl rfl rfl ?_
      exact ⟨rfl, fr.rf, h, by omega⟩
abbrev rgKp : Nat → Int → Prop := fun c _ => 16 ≤ c ∧ c ≤ 24
theorem s_Ev_keepParts {σ : eS} {r : Int} (hC : iCh σ) (hP : iPe σ 20 21) (hM : iMi σ) (hs : sW σ + max 0 (σ 20 3) ≤ σ 22 6) : MtI shA M_Ev_keepParts [vr 0, vi r] σ (fun σ' _ => fr rgKp σ σ' ∧ iCh σ' ∧ iMi σ') := by
  refine Mt.of okM_Ev_keepParts (Nat.le_of_ble_eq_true rfl) (fun hk hg => ?_)
  refine ok_iconst 0 rfl rfl (by decide) (ok_ist2 1 rfl rfl rfl ?_)
  refine lpO2 (fun (k : Int) (_ : eS) => [some (vr 0), some (vi r), some (vi k)]) (fun _ ρ => ρ) (fun k ρ => 0 ≤ k ∧ k ≤ 64 ∧ fr rgKp σ ρ ∧ iCh ρ ∧ iPe ρ 20 21 ∧ iMi ρ ∧ sW ρ + max 0 (ρ 20 3) ≤ ρ 22 6) (fun k _ => (64 - k).toNat) ?_ 0 σ ⟨by omega, by omega, fr.rf, hC, hP, hM, hs⟩
  rintro k ρ ⟨k1, k2, f, c1, c2, c3, c4⟩ ih
  refine ok_iload_n 2 rfl rfl rfl (ok_bipush 3 rfl rfl (by decide) (by decide) (ok_icmp_ge 4 53 rfl rfl rfl (fun h5 => ?_) (fun h5 => ?_)))
  · refine ok_aload_n 24 rfl rfl rfl (ok_getR 25 rfl rfl fl_X11_48 rfl rfl (ok_getI 26 rfl rfl fl_X11_318 rfl rfl (Or.inl rfl) (ok_iret 27 rfl rfl rfl ?_)))
    exact ⟨_, rfl, f, c1, c3⟩
  · refine ok_aload_n 5 rfl rfl rfl (ok_getR 6 rfl rfl fl_X11_41 rfl rfl (ok_getI 7 rfl rfl fl_X11_297 rfl rfl (Or.inl rfl) (ok_if_le 8 53 rfl rfl rfl (fun h15 => ?_) (fun h15 => ?_))))
    · refine ok_aload_n 24 rfl rfl rfl (ok_getR 25 rfl rfl fl_X11_48 rfl rfl (ok_getI 26 rfl rfl fl_X11_318 rfl rfl (Or.inl rfl) (ok_iret 27 rfl rfl rfl ?_)))
      exact ⟨_, rfl, f, c1, c3⟩
    · refine ok_aload_n 9 rfl rfl rfl (ok_getR 10 rfl rfl fl_X11_41 rfl rfl (ok_iload_n 11 rfl rfl rfl (ok_callVV (M' := M_Pe_takePart) (as := [_]) 12 rfl rfl ml_X11_325 (s_Pe_takePart (p := 20) (q := 21) (Or.inl ⟨rfl, rfl⟩) c2 c1) rfl rfl (Nat.le_of_ble_eq_true rfl) ⟨Nat.le_of_ble_eq_true rfl, Nat.le_of_ble_eq_true rfl⟩ rfl (Nat.le_of_ble_eq_true rfl) (fun τ g => ?_))))
      obtain ⟨g1, g2, g3, g4, g5, g6⟩ := g
      have m1 : iMi τ := iMi_cg c3 (fun c k a b => g1 c k (by simp only [rgPe]; omega))
      have m2 : sW τ = sW ρ := by unfold sW; rw [g1 22 5 (by simp [rgPe])]; exact sm_cg (fun k _ _ => g1 23 k (by simp [rgPe]))
      have m3 : τ 22 6 = ρ 22 6 := g1 22 6 (by simp [rgPe])
      refine ok_aload_n 13 rfl rfl rfl (ok_getR 14 rfl rfl fl_X11_48 rfl rfl (ok_aload_n 15 rfl rfl rfl (ok_getR 16 rfl rfl fl_X11_41 rfl rfl (ok_getI 17 rfl rfl fl_X11_328 rfl rfl (Or.inl rfl) (ok_aload_n 18 rfl rfl rfl (ok_getR 19 rfl rfl fl_X11_32 rfl rfl (ok_getR 20 rfl rfl fl_X11_227 rfl rfl (ok_callVV (M' := M_Mi_add) (as := [_, _]) 21 rfl rfl ml_X11_331 (s_Mi_add m1 g3 g5 (by omega)) rfl rfl (Nat.le_of_ble_eq_true rfl) ⟨Nat.le_of_ble_eq_true rfl, Nat.le_of_ble_eq_true rfl⟩ rfl (Nat.le_of_ble_eq_true rfl) (fun υ u => ?_)))))))))
      refine ok_inc2 22 rfl rfl rfl (by first | omega | (simp [up_if]; omega) | (simp [up_if] at *; omega)) (ok_goto 23 2 rfl rfl rfl ?_)
      obtain ⟨u1, u2, u3⟩ := u
      have v3 : υ 20 3 = τ 20 3 := u1 20 3 (by simp [rgMi])
      have v6 : υ 22 6 = τ 22 6 := u1 22 6 (by simp [rgMi])
      refine ih (k + 1) υ ⟨by omega, by omega, (f.tr (g1.mono (fun c k w => by simp only [rgPe, rgKp] at w ⊢; omega))).tr (u1.mono (fun c k w => by simp only [rgMi, rgKp] at w ⊢; omega)), iCh_cg g3 (fun k => u1 17 k (by simp [rgMi])), iPe_cg g2 (u1 20 2 (by simp [rgMi])) (fun k => u1 21 k (by simp [rgMi])), u2, by omega⟩ (by omega)
theorem QA_K {σ τ : eS} (h : IA σ) (f : fr rgKp σ τ) (c : iCh τ) (m : iMi τ) : QA σ τ := by
  have e3 := f 10 3 (by simp [rgKp])
  refine ⟨⟨?_, iTs_cg h.2.1 (fun c k a b d => f c k (by simp only [rgKp]; omega)), c, m, iSh_cg h.2.2.2.2.1 (fun k => f _ k (by simp [rgKp])), iSu_cg h.2.2.2.2.2 (fun k => f _ k (by simp [rgKp]))⟩, ⟨fun k => f _ k (by simp [rgKp]), fun k => f _ k (by simp [rgKp])⟩, fun c k a b d => f c k (by simp only [rgKp]; omega)⟩
  unfold tL
  rw [e3]
  exact h.1
theorem mT_bd {σ : eS} {t : Nat} (hT : iT σ t) (hM : mT σ t) (h : σ t 3 ≠ -1) : 0 < σ t 3 ∧ σ t 3 ≤ 799999992 := by
  rcases hM with q | ⟨q1, q2⟩
  · exact absurd q.1 h
  · have := (rowT_bd hT (i := 0) ⟨by decide, by decide⟩).2
    have := q1.2.1
    omega
theorem s_Ev_peel {σ : eS} {s r : Int} (h : IA σ) : MtI shA M_Ev_peel [vr 0, vi s, vi r] σ (fun σ' _ => QA σ σ') := by
  refine Mt.of okM_Ev_peel (Nat.le_of_ble_eq_true rfl) (fun hk hg => ?_)
  refine ok_aload_n 0 rfl rfl rfl (ok_iload_n 1 rfl rfl rfl (ok_callVR (M' := M_Ev_evenSlot) (as := [_]) 2 rfl rfl ml_X11_163 (s_Ev_evenSlot) rfl rfl (Nat.le_of_ble_eq_true rfl) ⟨Nat.le_of_ble_eq_true rfl, Nat.le_of_ble_eq_true rfl⟩ rfl (Nat.le_of_ble_eq_true rfl) (fun σ' z hz => ?_)))
  obtain ⟨hs_, hz⟩ := hz
  rw [hs_]; clear hs_ σ'
  rcases hz with ⟨q, q0⟩ | ⟨q1, q2, q, q3⟩
  · subst q
    refine ok_ast3 3 rfl rfl rfl (ok_aload_n 4 rfl rfl rfl (ok_ifnullN 5 17 rfl rfl rfl (ok_iconst 9 rfl rfl (by decide) (ok_iret 10 rfl rfl rfl ?_))))
    exact ⟨_, rfl, QA_rf h⟩
  · subst q
    have ht := sl_tA ⟨q1, q2⟩
    have nA := tA_10 ht
    obtain ⟨hT, hM⟩ := h.2.1 _ ht
    have hb := mT_bd hT hM q3
    have m1 := hT.1
    have m2 := hT.2.1
    have hm := h.2.2.2.1
    refine ok_ast3 3 rfl rfl rfl (ok_aload_n 4 rfl rfl rfl (ok_ifnull 5 rfl rfl (ok_iload_n 6 rfl rfl rfl (ok_callSI (M' := M_Ev_isRule) (as := [_]) 7 rfl rfl ml_X11_166 (s_Ev_isRule) ⟨Nat.le_of_ble_eq_true rfl, Nat.le_of_ble_eq_true rfl⟩ rfl (Nat.le_of_ble_eq_true rfl) (fun σ' z1 x1 => ?_)))))
    obtain ⟨hs_, x1⟩ := x1
    rw [hs_]; clear hs_ σ'
    refine ok_if_ne 8 19 rfl rfl rfl (fun h14 => ?_) (fun h14 => ?_)
    · refine ok_aload_n 11 rfl rfl rfl (ok_getR 12 rfl rfl fl_X11_41 rfl rfl (ok_aload_n 13 rfl rfl rfl (ok_callVV (M' := M_Pe_startTable) (as := [_]) 14 rfl rfl ml_X11_169 (s_Pe_startTable (p := 20) (q := 21) (Or.inl ⟨rfl, rfl⟩) ht hT) rfl rfl (Nat.le_of_ble_eq_true rfl) ⟨Nat.le_of_ble_eq_true rfl, Nat.le_of_ble_eq_true rfl⟩ rfl (Nat.le_of_ble_eq_true rfl) (fun τ f => ?_))))
      obtain ⟨f1, f2, f3, f4⟩ := f
      have e1 : τ (s.toNat + 2) 1 = σ (s.toNat + 2) 1 := f1 _ _ (by simp only [rgP0]; omega)
      have e3 : τ (s.toNat + 2) 3 = σ (s.toNat + 2) 3 := f1 _ _ (by simp only [rgP0]; omega)
      refine ok_aload_n 15 rfl rfl rfl (ok_getR 16 rfl rfl fl_X11_48 rfl rfl (ok_iconst 17 rfl rfl (by decide) (ok_aload_n 18 rfl rfl rfl (ok_getI 19 rfl rfl fl_X11_103 (sT ht) rfl (Or.inl rfl) (ok_aload_n 20 rfl rfl rfl (ok_getI 21 rfl rfl fl_X11_103 (sT ht) rfl (Or.inl rfl) (ok_aload_n 22 rfl rfl rfl (ok_getI 23 rfl rfl fl_X11_109 (sT ht) rfl (Or.inl rfl) (ok_callVV (M' := M_Mi_start) (as := [_, _, _, _]) 24 rfl rfl ml_X11_173 (s_Mi_start) rfl rfl (Nat.le_of_ble_eq_true rfl) ⟨Nat.le_of_ble_eq_true rfl, Nat.le_of_ble_eq_true rfl⟩ rfl (Nat.le_of_ble_eq_true rfl) (fun υ g => ?_))))))))))
      obtain ⟨g1, g2, g3, g4, g5⟩ := g
      have k3 : υ 20 3 = τ 20 3 := g1 20 3 (by simp)
      have F : fr rgKp σ υ := (f1.mono (fun c k w => by simp only [rgP0, rgKp] at w ⊢; omega)).tr (g1.mono (fun c k w => by simp only [rgKp]; omega))
      have M : iMi υ := ⟨by omega, fun k a b => by omega, fun k a b => by rw [g1 24 k (by simp), f1 24 k (by simp [rgP0])]; exact hm.2.2.1 k a b, by rw [g4, g5]; show (0 : Int) ≤ _; omega⟩
      have S : sW υ = 0 := by unfold sW; rw [g4]; rfl
      have C : iCh υ := iCh_cg h.2.2.1 (fun k => by rw [g1 17 k (by simp), f1 17 k (by simp [rgP0])])
      have P : iPe υ 20 21 := iPe_cg f2 (g1 20 2 (by simp)) (fun k => g1 21 k (by simp))
      refine ok_aload_n 25 rfl rfl rfl (ok_iload_n 26 rfl rfl rfl (ok_callVI (M' := M_Ev_keepParts) (as := [_]) 27 rfl rfl ml_X11_177 (s_Ev_keepParts C P M (by omega)) rfl rfl (Nat.le_of_ble_eq_true rfl) ⟨Nat.le_of_ble_eq_true rfl, Nat.le_of_ble_eq_true rfl⟩ rfl (Nat.le_of_ble_eq_true rfl) (fun ω z2 w => ?_)))
      refine ok_iret 28 rfl rfl rfl ?_
      exact ⟨_, rfl, QA_K h (F.tr w.1) w.2.1 w.2.2⟩
    · refine ok_iconst 9 rfl rfl (by decide) (ok_iret 10 rfl rfl rfl ?_)
      exact ⟨_, rfl, QA_rf h⟩
theorem s_Ev_shop {σ : eS} {s r : Int} (h : IA σ) : MtI shA M_Ev_shop [vr 0, vi s, vi r] σ (fun σ' _ => QA σ σ') := by
  refine Mt.of okM_Ev_shop (Nat.le_of_ble_eq_true rfl) (fun hk hg => ?_)
  refine ok_aload_n 0 rfl rfl rfl (ok_iload_n 1 rfl rfl rfl (ok_callVR (M' := M_Ev_filledSlot) (as := [_]) 2 rfl rfl ml_X11_137 (s_Ev_filledSlot) rfl rfl (Nat.le_of_ble_eq_true rfl) ⟨Nat.le_of_ble_eq_true rfl, Nat.le_of_ble_eq_true rfl⟩ rfl (Nat.le_of_ble_eq_true rfl) (fun σ' z hz => ?_)))
  obtain ⟨hs_, hz⟩ := hz
  rw [hs_]; clear hs_ σ'
  rcases hz with ⟨q, q0⟩ | ⟨q1, q2, q, q3⟩
  · subst q
    refine ok_ast3 3 rfl rfl rfl (ok_aload_n 4 rfl rfl rfl (ok_ifnullN 5 32 rfl rfl rfl (ok_iconst 16 rfl rfl (by decide) (ok_iret 17 rfl rfl rfl ?_))))
    exact ⟨_, rfl, QA_rf h⟩
  · subst q
    have ht := sl_tA ⟨q1, q2⟩
    have nA := tA_10 ht
    obtain ⟨hT, hM⟩ := h.2.1 _ ht
    have m1 := hT.1
    have hm := h.2.2.2.1
    refine ok_ast3 3 rfl rfl rfl (ok_aload_n 4 rfl rfl rfl (ok_ifnull 5 rfl rfl (ok_aload_n 6 rfl rfl rfl (ok_getI 7 rfl rfl fl_X11_103 (sT ht) rfl (Or.inl rfl) (ok_iconst 8 rfl rfl (by decide) (ok_icmp_gt 9 32 rfl rfl rfl (fun h15 => ?_) (fun h15 => ?_)))))))
    · refine ok_iconst 16 rfl rfl (by decide) (ok_iret 17 rfl rfl rfl ?_)
      exact ⟨_, rfl, QA_rf h⟩
    · refine ok_aload_n 10 rfl rfl rfl (ok_callVI (M' := M_Ta_greatestCell) (as := []) 11 rfl rfl ml_X11_116 (s_Ta_greatestCell ht hT) (sT ht) rfl (Nat.le_of_ble_eq_true rfl) ⟨Nat.le_of_ble_eq_true rfl, Nat.le_of_ble_eq_true rfl⟩ rfl (Nat.le_of_ble_eq_true rfl) (fun σ' z0 x0 => ?_))
      obtain ⟨hs_, x0⟩ := x0
      rw [hs_]; clear hs_ σ'
      refine ok_if_eq 12 32 rfl rfl rfl (fun h22 => ?_) (fun h22 => ?_)
      · refine ok_iconst 16 rfl rfl (by decide) (ok_iret 17 rfl rfl rfl ?_)
        exact ⟨_, rfl, QA_rf h⟩
      · refine ok_iload_n 13 rfl rfl rfl (ok_callSI (M' := M_Ev_isRule) (as := [_]) 14 rfl rfl ml_X11_166 (s_Ev_isRule) ⟨Nat.le_of_ble_eq_true rfl, Nat.le_of_ble_eq_true rfl⟩ rfl (Nat.le_of_ble_eq_true rfl) (fun σ' z1 x1 => ?_))
        obtain ⟨hs_, x1⟩ := x1
        rw [hs_]; clear hs_ σ'
        refine ok_if_ne 15 34 rfl rfl rfl (fun h29 => ?_) (fun h29 => ?_)
        · refine ok_aload_n 18 rfl rfl rfl (ok_getR 19 rfl rfl fl_X11_41 rfl rfl (ok_aload_n 20 rfl rfl rfl (ok_callVV (M' := M_Pe_startShop) (as := [_]) 21 rfl rfl ml_X11_294 (s_Pe_startShop (p := 20) (q := 21) (Or.inl ⟨rfl, rfl⟩) ht hT (by omega)) rfl rfl (Nat.le_of_ble_eq_true rfl) ⟨Nat.le_of_ble_eq_true rfl, Nat.le_of_ble_eq_true rfl⟩ rfl (Nat.le_of_ble_eq_true rfl) (fun τ f => ?_))))
          obtain ⟨f1, f2, f3, f4, f5⟩ := f
          have e1 : τ (s.toNat + 2) 1 = σ (s.toNat + 2) 1 := f1 _ _ (by simp only [rgP0]; omega)
          refine ok_aload_n 22 rfl rfl rfl (ok_getR 23 rfl rfl fl_X11_48 rfl rfl (ok_iconst 24 rfl rfl (by decide) (ok_aload_n 25 rfl rfl rfl (ok_getI 26 rfl rfl fl_X11_103 (sT ht) rfl (Or.inl rfl) (ok_iconst 27 rfl rfl (by decide) (ok_aload_n 28 rfl rfl rfl (ok_getI 29 rfl rfl fl_X11_103 (sT ht) rfl (Or.inl rfl) (ok_imul 30 rfl rfl (by first | omega | (simp [up_if]; omega) | (simp [up_if] at *; omega)) (ok_aload_n 31 rfl rfl rfl (ok_getR 32 rfl rfl fl_X11_41 rfl rfl (ok_getI 33 rfl rfl fl_X11_297 rfl rfl (Or.inl rfl) (ok_callVV (M' := M_Mi_start) (as := [_, _, _, _]) 34 rfl rfl ml_X11_173 (s_Mi_start) rfl rfl (Nat.le_of_ble_eq_true rfl) ⟨Nat.le_of_ble_eq_true rfl, Nat.le_of_ble_eq_true rfl⟩ rfl (Nat.le_of_ble_eq_true rfl) (fun υ g => ?_)))))))))))))
          obtain ⟨g1, g2, g3, g4, g5⟩ := g
          have k3 : υ 20 3 = τ 20 3 := g1 20 3 (by simp)
          have F : fr rgKp σ υ := (f1.mono (fun c k w => by simp only [rgP0, rgKp] at w ⊢; omega)).tr (g1.mono (fun c k w => by simp only [rgKp]; omega))
          have M : iMi υ := ⟨by omega, fun k a b => by omega, fun k a b => by rw [g1 24 k (by simp), f1 24 k (by simp [rgP0])]; exact hm.2.2.1 k a b, by rw [g4, g5]; show (0 : Int) ≤ _; omega⟩
          have S : sW υ = 0 := by unfold sW; rw [g4]; rfl
          have C : iCh υ := iCh_cg h.2.2.1 (fun k => by rw [g1 17 k (by simp), f1 17 k (by simp [rgP0])])
          have P : iPe υ 20 21 := iPe_cg f2 (g1 20 2 (by simp)) (fun k => g1 21 k (by simp))
          refine ok_aload_n 35 rfl rfl rfl (ok_iload_n 36 rfl rfl rfl (ok_callVI (M' := M_Ev_keepParts) (as := [_]) 37 rfl rfl ml_X11_177 (s_Ev_keepParts C P M (by omega)) rfl rfl (Nat.le_of_ble_eq_true rfl) ⟨Nat.le_of_ble_eq_true rfl, Nat.le_of_ble_eq_true rfl⟩ rfl (Nat.le_of_ble_eq_true rfl) (fun ω z2 w => ?_)))
          refine ok_iret 38 rfl rfl rfl ?_
          exact ⟨_, rfl, QA_K h (F.tr w.1) w.2.1 w.2.2⟩
        · refine ok_iconst 16 rfl rfl (by decide) (ok_iret 17 rfl rfl rfl ?_)
          exact ⟨_, rfl, QA_rf h⟩
theorem QA_C {σ τ : eS} (h : IA σ) (f : fr rgCh σ τ) (c : iCh τ) : QA σ τ := QA_K h (f.mono (fun c k w => by simp only [rgCh, rgKp] at w ⊢; omega)) c (iMi_cg h.2.2.2.1 (fun c k a b => f c k (by simp only [rgCh]; omega)))
theorem QA_18 {σ τ : eS} (h : IA σ) (f : fr (fun c _ => c = 18) σ τ) : QA σ τ := QA_C h (f.mono (fun c k w => by simp only [rgCh]; omega)) (iCh_cg h.2.2.1 (fun k => f _ _ (by simp)))
theorem s_Ev_paired {σ : eS} {s m r : Int} (h : IA σ) : MtI shA M_Ev_paired [vr 0, vi s, vi m, vi r] σ (fun σ' _ => QA σ σ') := by
  refine Mt.of okM_Ev_paired (Nat.le_of_ble_eq_true rfl) (fun hk hg => ?_)
  refine ok_aload_n 0 rfl rfl rfl (ok_iload_n 1 rfl rfl rfl (ok_callVR (M' := M_Ev_filledSlot) (as := [_]) 2 rfl rfl ml_X11_137 (s_Ev_filledSlot) rfl rfl (Nat.le_of_ble_eq_true rfl) ⟨Nat.le_of_ble_eq_true rfl, Nat.le_of_ble_eq_true rfl⟩ rfl (Nat.le_of_ble_eq_true rfl) (fun σ' z hz => ?_)))
  obtain ⟨hs_, hz⟩ := hz
  rw [hs_]; clear hs_ σ'
  rcases hz with ⟨q, q0⟩ | ⟨q1, q2, q, q3⟩
  · subst q
    refine ok_ast4 3 rfl rfl rfl (ok_aload 4 rfl rfl rfl (ok_ifnullN 5 28 rfl rfl rfl (ok_iconst 13 rfl rfl (by decide) (ok_iret 14 rfl rfl rfl ?_))))
    exact ⟨_, rfl, QA_rf h⟩
  · subst q
    have ht := sl_tA ⟨q1, q2⟩
    have hT := (h.2.1 _ ht).1
    have m1 := hT.1
    have m2 := hT.2.1
    refine ok_ast4 3 rfl rfl rfl (ok_aload 4 rfl rfl rfl (ok_ifnull 5 rfl rfl (ok_iload_n 6 rfl rfl rfl (ok_callSI (M' := M_Ev_isCell) (as := [_]) 7 rfl rfl ml_X11_208 (s_Ev_isCell) ⟨Nat.le_of_ble_eq_true rfl, Nat.le_of_ble_eq_true rfl⟩ rfl (Nat.le_of_ble_eq_true rfl) (fun σ' z0 x0 => ?_)))))
    obtain ⟨hs_, x0⟩ := x0
    rw [hs_]; clear hs_ σ'
    refine ok_if_eq 8 28 rfl rfl rfl (fun h16 => ?_) (fun h16 => ?_)
    · refine ok_iconst 13 rfl rfl (by decide) (ok_iret 14 rfl rfl rfl ?_)
      exact ⟨_, rfl, QA_rf h⟩
    · refine ok_aload 9 rfl rfl rfl (ok_iload_n 10 rfl rfl rfl (ok_callVI (M' := M_Ta_has) (as := [_]) 11 rfl rfl ml_X11_129 (s_Ta_has ht) (sT ht) rfl (Nat.le_of_ble_eq_true rfl) ⟨Nat.le_of_ble_eq_true rfl, Nat.le_of_ble_eq_true rfl⟩ rfl (Nat.le_of_ble_eq_true rfl) (fun σ' z1 x1 => ?_)))
      obtain ⟨hs_, x1⟩ := x1
      rw [hs_]; clear hs_ σ'
      refine ok_if_ne 12 30 rfl rfl rfl (fun h25 => ?_) (fun h25 => ?_)
      · refine ok_aload_n 15 rfl rfl rfl (ok_getR 16 rfl rfl fl_X11_32 rfl rfl (ok_aload 17 rfl rfl rfl (ok_iload_n 18 rfl rfl rfl (ok_callVL (M' := M_Ta_joinedBy) (as := [_]) 19 rfl rfl ml_X11_119 (s_Ta_joinedBy ht hT) (sT ht) rfl (Nat.le_of_ble_eq_true rfl) ⟨Nat.le_of_ble_eq_true rfl, Nat.le_of_ble_eq_true rfl⟩ rfl (Nat.le_of_ble_eq_true rfl) (fun σ' z2 x2 => ?_)))))
        obtain ⟨hs_, x2⟩ := x2
        rw [hs_]; clear hs_ σ'
        refine ok_aload 20 rfl rfl rfl (ok_getI 21 rfl rfl fl_X11_103 (sT ht) rfl (Or.inl rfl) (ok_callVI (M' := M_Ch_findFirst) (as := [_, _]) 22 rfl rfl ml_X11_223 (s_Ch_findFirst h.2.2.1 ⟨m1, m2⟩) rfl rfl (Nat.le_of_ble_eq_true rfl) ⟨Nat.le_of_ble_eq_true rfl, Nat.le_of_ble_eq_true rfl⟩ rfl (Nat.le_of_ble_eq_true rfl) (fun τ z3 f => ?_)))
        refine ok_if_eq 23 63 rfl rfl rfl (fun h48 => ?_) (fun h48 => ?_)
        · refine ok_iconst 30 rfl rfl (by decide) (ok_iret 31 rfl rfl rfl ?_)
          exact ⟨_, rfl, QA_C h f.1 f.2.1⟩
        · refine ok_aload_n 24 rfl rfl rfl (ok_getR 25 rfl rfl fl_X11_32 rfl rfl (ok_getR 26 rfl rfl fl_X11_227 rfl rfl (ok_iload_n 27 rfl rfl rfl (ok_iald 28 rfl rfl rfl (by first | omega | (simp [up_if]; omega) | (simp [up_if] at *; omega)) (ok_goto 29 64 rfl rfl rfl (ok_iret 31 rfl rfl rfl ?_))))))
          exact ⟨_, rfl, QA_C h f.1 f.2.1⟩
      · refine ok_iconst 13 rfl rfl (by decide) (ok_iret 14 rfl rfl rfl ?_)
        exact ⟨_, rfl, QA_rf h⟩
theorem s_Ev_ways {σ : eS} {s m : Int} (h : IA σ) : MtI shA M_Ev_ways [vr 0, vi s, vi m] σ (fun σ' _ => QA σ σ') := by
  refine Mt.of okM_Ev_ways (Nat.le_of_ble_eq_true rfl) (fun hk hg => ?_)
  refine ok_aload_n 0 rfl rfl rfl (ok_iload_n 1 rfl rfl rfl (ok_callVR (M' := M_Ev_filledSlot) (as := [_]) 2 rfl rfl ml_X11_137 (s_Ev_filledSlot) rfl rfl (Nat.le_of_ble_eq_true rfl) ⟨Nat.le_of_ble_eq_true rfl, Nat.le_of_ble_eq_true rfl⟩ rfl (Nat.le_of_ble_eq_true rfl) (fun σ' z hz => ?_)))
  obtain ⟨hs_, hz⟩ := hz
  rw [hs_]; clear hs_ σ'
  rcases hz with ⟨q, q0⟩ | ⟨q1, q2, q, q3⟩
  · subst q
    refine ok_ast3 3 rfl rfl rfl (ok_aload_n 4 rfl rfl rfl (ok_ifnullN 5 17 rfl rfl rfl (ok_iconst 9 rfl rfl (by decide) (ok_iret 10 rfl rfl rfl ?_))))
    exact ⟨_, rfl, QA_rf h⟩
  · subst q
    have ht := sl_tA ⟨q1, q2⟩
    have hT := (h.2.1 _ ht).1
    refine ok_ast3 3 rfl rfl rfl (ok_aload_n 4 rfl rfl rfl (ok_ifnull 5 rfl rfl (ok_iload_n 6 rfl rfl rfl (ok_callSI (M' := M_Ev_isCell) (as := [_]) 7 rfl rfl ml_X11_208 (s_Ev_isCell) ⟨Nat.le_of_ble_eq_true rfl, Nat.le_of_ble_eq_true rfl⟩ rfl (Nat.le_of_ble_eq_true rfl) (fun σ' z0 x0 => ?_)))))
    obtain ⟨hs_, x0⟩ := x0
    rw [hs_]; clear hs_ σ'
    refine ok_if_ne 8 19 rfl rfl rfl (fun h14 => ?_) (fun h14 => ?_)
    · refine ok_aload_n 11 rfl rfl rfl (ok_getR 12 rfl rfl fl_X11_32 rfl rfl (ok_aload_n 13 rfl rfl rfl (ok_iload_n 14 rfl rfl rfl (ok_callVL (M' := M_Ta_joinedBy) (as := [_]) 15 rfl rfl ml_X11_119 (s_Ta_joinedBy ht hT) (sT ht) rfl (Nat.le_of_ble_eq_true rfl) ⟨Nat.le_of_ble_eq_true rfl, Nat.le_of_ble_eq_true rfl⟩ rfl (Nat.le_of_ble_eq_true rfl) (fun σ' z2 x2 => ?_)))))
      obtain ⟨hs_, x2⟩ := x2
      rw [hs_]; clear hs_ σ'
      refine ok_aload_n 16 rfl rfl rfl (ok_getI 17 rfl rfl fl_X11_103 (sT ht) rfl (Or.inl rfl) (ok_callVL (M' := M_Ch_countAll) (as := [_, _]) 18 rfl rfl ml_X11_230 (s_Ch_countAll ⟨hT.1, hT.2.1⟩) rfl rfl (Nat.le_of_ble_eq_true rfl) ⟨Nat.le_of_ble_eq_true rfl, Nat.le_of_ble_eq_true rfl⟩ rfl (Nat.le_of_ble_eq_true rfl) (fun τ z3 f => ?_)))
      refine ok_l2iW 19 rfl rfl (ok_iret 20 rfl rfl rfl ?_)
      exact ⟨_, rfl, QA_18 h f⟩
    · refine ok_iconst 9 rfl rfl (by decide) (ok_iret 10 rfl rfl rfl ?_)
      exact ⟨_, rfl, QA_rf h⟩
theorem s_Ev_widest {σ : eS} {s : Int} (h : IA σ) : MtI shA M_Ev_widest [vr 0, vi s] σ (fun σ' _ => QA σ σ') := by
  refine Mt.of okM_Ev_widest (Nat.le_of_ble_eq_true rfl) (fun hk hg => ?_)
  refine ok_aload_n 0 rfl rfl rfl (ok_iload_n 1 rfl rfl rfl (ok_callVR (M' := M_Ev_filledSlot) (as := [_]) 2 rfl rfl ml_X11_137 (s_Ev_filledSlot) rfl rfl (Nat.le_of_ble_eq_true rfl) ⟨Nat.le_of_ble_eq_true rfl, Nat.le_of_ble_eq_true rfl⟩ rfl (Nat.le_of_ble_eq_true rfl) (fun σ' z hz => ?_)))
  obtain ⟨hs_, hz⟩ := hz
  rw [hs_]; clear hs_ σ'
  rcases hz with ⟨q, q0⟩ | ⟨q1, q2, q, q3⟩
  · subst q
    refine ok_ast2 3 rfl rfl rfl (ok_aload_n 4 rfl rfl rfl (ok_ifnonnullN 5 rfl rfl (ok_iconst 6 rfl rfl (by decide) (ok_goto 7 35 rfl rfl rfl (ok_iret 19 rfl rfl rfl ?_)))))
    exact ⟨_, rfl, QA_rf h⟩
  · subst q
    have ht := sl_tA ⟨q1, q2⟩
    have hT := (h.2.1 _ ht).1
    refine ok_ast2 3 rfl rfl rfl (ok_aload_n 4 rfl rfl rfl (ok_ifnonnull 5 14 rfl rfl rfl (ok_aload_n 8 rfl rfl rfl (ok_getR 9 rfl rfl fl_X11_32 rfl rfl (ok_aload_n 10 rfl rfl rfl (ok_getR 11 rfl rfl fl_X11_133 (sT ht) rfl (ok_aload_n 12 rfl rfl rfl (ok_iconst 13 rfl rfl (by decide) (ok_callVL (M' := M_Ta_joinedBy) (as := [_]) 14 rfl rfl ml_X11_119 (s_Ta_joinedBy ht hT) (sT ht) rfl (Nat.le_of_ble_eq_true rfl) ⟨Nat.le_of_ble_eq_true rfl, Nat.le_of_ble_eq_true rfl⟩ rfl (Nat.le_of_ble_eq_true rfl) (fun σ' z2 x2 => ?_))))))))))
    obtain ⟨hs_, x2⟩ := x2
    rw [hs_]; clear hs_ σ'
    refine ok_aload_n 15 rfl rfl rfl (ok_getI 16 rfl rfl fl_X11_103 (sT ht) rfl (Or.inl rfl) (ok_callVL (M' := M_Ch_greatestLeast) (as := [_, _, _]) 17 rfl rfl ml_X11_234 (s_Ch_greatestLeast (sC ht) ⟨hT.1, hT.2.1⟩) rfl rfl (Nat.le_of_ble_eq_true rfl) ⟨Nat.le_of_ble_eq_true rfl, Nat.le_of_ble_eq_true rfl⟩ rfl (Nat.le_of_ble_eq_true rfl) (fun τ z3 f => ?_)))
    refine ok_l2iW 18 rfl rfl (ok_iret 19 rfl rfl rfl ?_)
    exact ⟨_, rfl, QA_18 h f⟩
theorem s_Ev_best {σ : eS} {s w : Int} (h : IA σ) : MtL shA M_Ev_best [vr 0, vi s, vi w] σ (fun σ' _ => QA σ σ') := by
  refine Mt.of okM_Ev_best (Nat.le_of_ble_eq_true rfl) (fun hk hg => ?_)
  have hrw : rg w := hk.2.2.1
  refine ok_aload_n 0 rfl rfl rfl (ok_iload_n 1 rfl rfl rfl (ok_callVR (M' := M_Ev_filledSlot) (as := [_]) 2 rfl rfl ml_X11_137 (s_Ev_filledSlot) rfl rfl (Nat.le_of_ble_eq_true rfl) ⟨Nat.le_of_ble_eq_true rfl, Nat.le_of_ble_eq_true rfl⟩ rfl (Nat.le_of_ble_eq_true rfl) (fun σ' z hz => ?_)))
  obtain ⟨hs_, hz⟩ := hz
  rw [hs_]; clear hs_ σ'
  rcases hz with ⟨q, q0⟩ | ⟨q1, q2, q, q3⟩
  · subst q
    refine ok_ast3 3 rfl rfl rfl (ok_aload_n 4 rfl rfl rfl (ok_ifnullN 5 31 rfl rfl rfl (ok_ldc2 17 (-1) rfl rfl kc_X11_238 (by decide) (ok_lret 18 rfl rfl rfl ?_))))
    exact ⟨_, rfl, QA_rf h⟩
  · subst q
    have ht := sl_tA ⟨q1, q2⟩
    have hT := (h.2.1 _ ht).1
    have m1 := hT.1
    have m2 := hT.2.1
    have tail : (w ≠ 0 → 0 ≤ w - 10 ∧ w - 10 < σ (s.toNat + 2) 1) → Ok shA M_Ev_best 35 [some (vr 0), some (vi s), some (vi w), some (vr (s.toNat + 2)), none, none] [] σ (fun σ' v => ∃ z, v = some (vl z) ∧ QA σ σ') := by
      intro hw
      refine ok_aload_n 19 rfl rfl rfl (ok_getR 20 rfl rfl fl_X11_32 rfl rfl (ok_aload_n 21 rfl rfl rfl (ok_getR 22 rfl rfl fl_X11_133 (sT ht) rfl (ok_aload_n 23 rfl rfl rfl (ok_iconst 24 rfl rfl (by decide) (ok_callVL (M' := M_Ta_joinedBy) (as := [_]) 25 rfl rfl ml_X11_119 (s_Ta_joinedBy ht hT) (sT ht) rfl (Nat.le_of_ble_eq_true rfl) ⟨Nat.le_of_ble_eq_true rfl, Nat.le_of_ble_eq_true rfl⟩ rfl (Nat.le_of_ble_eq_true rfl) (fun σ' z2 x2 => ?_)))))))
      obtain ⟨hs_, x2⟩ := x2
      rw [hs_]; clear hs_ σ'
      refine ok_aload_n 26 rfl rfl rfl (ok_getI 27 rfl rfl fl_X11_103 (sT ht) rfl (Or.inl rfl) (ok_callVL (M' := M_Ch_findRichest) (as := [_, _, _]) 28 rfl rfl ml_X11_240 (s_Ch_findRichest (sC ht) h.2.2.1 ⟨m1, m2⟩) rfl rfl (Nat.le_of_ble_eq_true rfl) ⟨Nat.le_of_ble_eq_true rfl, Nat.le_of_ble_eq_true rfl⟩ rfl (Nat.le_of_ble_eq_true rfl) (fun τ z3 f => ?_)))
      refine ok_lst4 29 rfl rfl rfl (ok_iload_n 30 rfl rfl rfl (ok_if_ne 31 66 rfl rfl rfl (fun h58 => ?_) (fun h58 => ?_)))
      · refine ok_aload_n 34 rfl rfl rfl (ok_getR 35 rfl rfl fl_X11_32 rfl rfl (ok_getR 36 rfl rfl fl_X11_227 rfl rfl (ok_iload_n 37 rfl rfl rfl (ok_bipush 38 rfl rfl (by decide) (by decide) (ok_isub 39 rfl rfl (by first | omega | (simp [up_if]; omega) | (simp [up_if] at *; omega)) (ok_iald 40 rfl rfl rfl (by first | omega | (simp [up_if]; omega) | (simp [up_if] at *; omega)) (ok_i2l 41 rfl rfl (ok_lret 42 rfl rfl rfl ?_))))))))
        exact ⟨_, rfl, QA_C h f.1 f.2⟩
      · refine ok_lload 32 rfl rfl rfl (ok_goto 33 79 rfl rfl rfl (ok_lret 42 rfl rfl rfl ?_))
        exact ⟨_, rfl, QA_C h f.1 f.2⟩
    refine ok_ast3 3 rfl rfl rfl (ok_aload_n 4 rfl rfl rfl (ok_ifnull 5 rfl rfl (ok_iload_n 6 rfl rfl rfl (ok_if_eq 7 35 rfl rfl rfl (fun h11 => ?_) (fun h11 => ?_)))))
    · exact tail (by omega)
    · refine ok_iload_n 8 rfl rfl rfl (ok_bipush 9 rfl rfl (by decide) (by decide) (ok_icmp_lt 10 31 rfl rfl rfl (fun h17 => ?_) (fun h17 => ?_)))
      · refine ok_ldc2 17 (-1) rfl rfl kc_X11_238 (by decide) (ok_lret 18 rfl rfl rfl ?_)
        exact ⟨_, rfl, QA_rf h⟩
      · refine ok_aload_n 11 rfl rfl rfl (ok_iload_n 12 rfl rfl rfl (ok_bipush 13 rfl rfl (by decide) (by decide) (ok_isub 14 rfl rfl (by first | omega | (simp [up_if]; omega) | (simp [up_if] at *; omega)) (ok_callVI (M' := M_Ta_has) (as := [_]) 15 rfl rfl ml_X11_129 (s_Ta_has ht) (sT ht) rfl (Nat.le_of_ble_eq_true rfl) ⟨Nat.le_of_ble_eq_true rfl, Nat.le_of_ble_eq_true rfl⟩ rfl (Nat.le_of_ble_eq_true rfl) (fun σ' z1 x1 => ?_)))))
        obtain ⟨hs_, x1⟩ := x1
        rw [hs_]; clear hs_ σ'
        refine ok_if_ne 16 35 rfl rfl rfl (fun h28 => ?_) (fun h28 => ?_)
        · exact tail (by omega)
        · refine ok_ldc2 17 (-1) rfl rfl kc_X11_238 (by decide) (ok_lret 18 rfl rfl rfl ?_)
          exact ⟨_, rfl, QA_rf h⟩
theorem s_Ev_permanent {σ : eS} {s : Int} (h : IA σ) : MtL shA M_Ev_permanent [vr 0, vi s] σ (fun σ' _ => QA σ σ') := by
  refine Mt.of okM_Ev_permanent (Nat.le_of_ble_eq_true rfl) (fun hk hg => ?_)
  refine ok_aload_n 0 rfl rfl rfl (ok_iload_n 1 rfl rfl rfl (ok_callVR (M' := M_Ev_filledSlot) (as := [_]) 2 rfl rfl ml_X11_137 (s_Ev_filledSlot) rfl rfl (Nat.le_of_ble_eq_true rfl) ⟨Nat.le_of_ble_eq_true rfl, Nat.le_of_ble_eq_true rfl⟩ rfl (Nat.le_of_ble_eq_true rfl) (fun σ' z hz => ?_)))
  obtain ⟨hs_, hz⟩ := hz
  rw [hs_]; clear hs_ σ'
  rcases hz with ⟨q, q0⟩ | ⟨q1, q2, q, q3⟩
  · subst q
    refine ok_ast2 3 rfl rfl rfl (ok_aload_n 4 rfl rfl rfl (ok_ifnonnullN 5 rfl rfl (ok_ldc2 6 (-1) rfl rfl kc_X11_238 (by decide) (ok_goto 7 31 rfl rfl rfl (ok_lret 15 rfl rfl rfl ?_)))))
    exact ⟨_, rfl, QA_rf h⟩
  · subst q
    have ht := sl_tA ⟨q1, q2⟩
    have hT := (h.2.1 _ ht).1
    refine ok_ast2 3 rfl rfl rfl (ok_aload_n 4 rfl rfl rfl (ok_ifnonnull 5 16 rfl rfl rfl (ok_aload_n 8 rfl rfl rfl (ok_getR 9 rfl rfl fl_X11_32 rfl rfl (ok_aload_n 10 rfl rfl rfl (ok_getR 11 rfl rfl fl_X11_133 (sT ht) rfl (ok_aload_n 12 rfl rfl rfl (ok_getI 13 rfl rfl fl_X11_103 (sT ht) rfl (Or.inl rfl) (ok_callVL (M' := M_Ch_multiplyAll) (as := [_, _]) 14 rfl rfl ml_X11_243 (s_Ch_multiplyAll (sC ht) ⟨hT.1, hT.2.1⟩) rfl rfl (Nat.le_of_ble_eq_true rfl) ⟨Nat.le_of_ble_eq_true rfl, Nat.le_of_ble_eq_true rfl⟩ rfl (Nat.le_of_ble_eq_true rfl) (fun τ z3 f => ?_))))))))))
    refine ok_lret 15 rfl rfl rfl ?_
    exact ⟨_, rfl, QA_18 h f⟩
