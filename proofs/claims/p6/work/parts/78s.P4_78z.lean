section
theorem up_fn (σ : eS) {c c' : Nat} (k z : Int) (h : c' ≠ c) : (up σ c k z) c' = σ c' := by funext j; exact up_ne _ _ _ _ h
theorem up_uf (σ : eS) (c : Nat) (k z : Int) : (up σ c k z) c = uf (σ c) k z := by funext j; rw [up_if]; unfold uf; simp
def PA (σ : eS) : oA := PR (σ 11) (σ 10 3) (σ 10 6) (σ 10 7) (σ 10 8) (σ 10 9) (σ 12) (σ 13)
/-- a step of the reading, of the class: no fault, and what is left is what was; or the fault of the whole -/
def KA (σ σ' : eS) : Prop := (σ' 10 4 = 0 ∧ PA σ' = PA σ ∧ σ 10 6 < σ' 10 6 ∧ σ' 10 5 = σ 10 5) ∨ (σ' 10 4 ≠ 0 ∧ (PA σ).1 = σ' 10 4 ∧ (PA σ).2.1 = σ' 10 5)
theorem sk_0 {B : Int → Int} {L p : Int} (h : ¬ blA B L p) : sk B L p = p := sk_un (Int.le_refl _) (fun i a b => by omega) h
theorem kf_weak {υ ω : eS} {a u : Int} (ha : 0 ≤ a ∧ a ≤ 999999) (hu : 1 ≤ u ∧ u ≤ 999999) (e : ω = up (up (up υ 12 (υ 10 7 * 8 + υ 10 8) (a / (Int.gcd u a : Int))) 13 (υ 10 7 * 8 + υ 10 8) (u / (Int.gcd u a : Int))) 10 8 (υ 10 8 + 1)) : fr rgE υ ω ∧ ω 10 8 = υ 10 8 + 1 ∧ uA ω (υ 10 7 * 8 + υ 10 8) ∧ ∀ k, k ≠ υ 10 7 * 8 + υ 10 8 → ω 12 k = υ 12 k ∧ ω 13 k = υ 13 k := by
  obtain ⟨g1, g2⟩ := gcd_pos (a := u) (b := a) (by omega)
  have d1 := div_bd (u := a) (g := (Int.gcd u a : Int)) (B := 999999) ⟨by omega, by omega⟩ g1
  have d2 := gcd_div (u := u) (g := (Int.gcd u a : Int)) hu.1 g1 g2
  subst e
  refine ⟨fr_up (fr_up (fr_up fr.rf (by simp [rgE])) (by simp [rgE])) (by simp [rgE]), by simp [up_if], ?_, fun k q => ?_⟩
  · unfold uA
    simp [up_if]
    omega
  · simp [up_if, q]
theorem t_Tp_readFraction {σ : eS} (h : RA σ) (hd : dgA (σ 11) (σ 10 3) (σ 10 6)) (hf0 : σ 10 4 = 0) : MtV shA M_Tp_readFraction [vr 10] σ (fun σ' => QJ σ σ' ∧ KA σ σ') := by
  refine Mt.of okM_Tp_readFraction (Nat.le_of_ble_eq_true rfl) (fun hk hg => ?_)
  have h0 := h.1
  have hq : sk (σ 11) (σ 10 3) (σ 10 6) = σ 10 6 := sk_0 (fun q => by have := hd.2; have := q.2; omega)
  have hP := PR_dig (r := σ 10 7) (k := σ 10 8) (w := σ 10 9) (ab := σ 12) (un := σ 13) hq hd.1 hd.2 rfl
  have ht := de_gt hd
  have ht2 := (de_sp (σ 11) (σ 10 3) (σ 10 6)).2.1 h0.2.2.2
  refine ok_aload_n 0 rfl rfl rfl (ok_callVI (M' := M_Tp_countDigits) (as := []) 1 rfl rfl ml_X10_79 (t_Tp_countDigits h0) rfl rfl (Nat.le_of_ble_eq_true rfl) ⟨Nat.le_of_ble_eq_true rfl, Nat.le_of_ble_eq_true rfl⟩ rfl (Nat.le_of_ble_eq_true rfl) (fun σ' z hz => ?_))
  rw [hz.1, hz.2]
  clear hz z σ'
  refine ok_bipush 2 rfl rfl (by decide) (by decide) (ok_icmp_le 3 21 rfl rfl rfl (fun h6 => ?_) (fun h6 => ?_))
  · refine ok_aload_n 10 rfl rfl rfl (ok_getI 11 rfl rfl fl_X10_34 rfl rfl (Or.inl rfl) (ok_bipush 12 rfl rfl (by decide) (by decide) (ok_icmp_eq 13 39 rfl rfl rfl (fun h27 => ?_) (fun h27 => ?_))))
    · refine ok_aload_n 18 rfl rfl rfl (ok_iconst 19 rfl rfl (by decide) (ok_aload_n 20 rfl rfl rfl (ok_getI 21 rfl rfl fl_X10_31 rfl rfl (Or.inl rfl) (ok_callVV (M' := M_Tp_fail) (as := [_, _]) 22 rfl rfl ml_X10_75 (s_Tp_fail) rfl rfl (Nat.le_of_ble_eq_true rfl) ⟨Nat.le_of_ble_eq_true rfl, Nat.le_of_ble_eq_true rfl⟩ rfl (Nat.le_of_ble_eq_true rfl) (fun σ' hz => ?_)))))
      rw [hz]
      clear hz σ'
      refine ok_goto 23 95 rfl rfl rfl (ok_vret 46 rfl rfl rfl ?_)
      refine ⟨rfl, QJ_D h (QD_f h0 _ _), Or.inr ⟨by simp [up_if], ?_, ?_⟩⟩
      · show (PA σ).1 = _; unfold PA; rw [hP, if_neg (by omega), if_pos (by omega)]; simp [up_if]
      · show (PA σ).2.1 = _; unfold PA; rw [hP, if_neg (by omega), if_pos (by omega)]; simp [up_if]
    · refine ok_aload_n 14 rfl rfl rfl (ok_getI 15 rfl rfl fl_X10_37 rfl rfl (Or.inl rfl) (ok_bipush 16 rfl rfl (by decide) (by decide) (ok_icmp_ne 17 51 rfl rfl rfl (fun h36 => ?_) (fun h36 => ?_))))
      · refine ok_aload_n 24 rfl rfl rfl (ok_getI 25 rfl rfl fl_X10_34 rfl rfl (Or.inl rfl) (ok_if_le 26 81 rfl rfl rfl (fun h55 => ?_) (fun h55 => ?_)))
        · obtain ⟨-, h1, h2, h3, h4, h5, h6, h7, h8, h9⟩ := id h
          have r7 : σ 10 7 ≤ 7 := by omega
          have f7 : σ 10 8 ≤ 7 := by omega
          have fw : 0 < σ 10 7 → σ 10 8 < σ 10 9 := fun q => by have := h9 q; omega
          rw [if_neg (by omega), if_neg (by omega), if_neg (by omega)] at hP
          have h6' : de (σ 11) (σ 10 3) (σ 10 6) - σ 10 6 ≤ 6 := by omega
          have vb := vaD_bd h6'
          obtain ⟨e, ee⟩ : ∃ e, e = de (σ 11) (σ 10 3) (σ 10 6) := ⟨_, rfl⟩
          obtain ⟨a, ea⟩ : ∃ a, a = vaD (σ 11) (σ 10 6) e := ⟨_, rfl⟩
          rw [← ee] at vb ht ht2 hP
          rw [← ea] at vb hP
          have q1 : QD σ (up σ 10 6 e) := ⟨fr_up fr.rf (by simp [rgD]), by rw [up_same]; omega, by rw [up_same]; omega⟩
          have c3 : (up σ 10 6 e) 10 3 = σ 10 3 := up_nk _ _ _ _ (by decide)
          have c6 : (up σ 10 6 e) 10 6 = e := up_same _ _ _ _
          have c11 : (up σ 10 6 e) 11 = σ 11 := up_fn _ _ _ (by decide)
          refine ok_aload_n 38 rfl rfl rfl (ok_callVI (M' := M_Tp_readNumber) (as := []) 39 rfl rfl ml_X10_83 (t_Tp_readNumber h0 h6') rfl rfl (Nat.le_of_ble_eq_true rfl) ⟨Nat.le_of_ble_eq_true rfl, Nat.le_of_ble_eq_true rfl⟩ rfl (Nat.le_of_ble_eq_true rfl) (fun σ' z hz => ?_))
          rw [hz.1, hz.2]
          clear hz z σ'
          rw [← ee, ← ea]
          refine ok_ist1 40 rfl rfl rfl (ok_aload_n 41 rfl rfl rfl (ok_iload_n 42 rfl rfl rfl (ok_aload_n 43 rfl rfl rfl (ok_callVI (M' := M_Tp_readDivisor) (as := []) 44 rfl rfl ml_X10_86 (t_Tp_readDivisor (QD_P h0 q1)) rfl rfl (Nat.le_of_ble_eq_true rfl) ⟨Nat.le_of_ble_eq_true rfl, Nat.le_of_ble_eq_true rfl⟩ rfl (Nat.le_of_ble_eq_true rfl) (fun υ y hy => ?_)))))
          have q2 := QD_tr q1 hy.1
          have hy2 : 1 ≤ y ∧ y ≤ 999999 := ⟨hy.2.1, hy.2.2.1⟩
          have hv := hy.2.2.2
          have ra := RA_D h q2
          have e7 : υ 10 7 = σ 10 7 := q2.1 10 7 (by simp [rgD])
          have e8 : υ 10 8 = σ 10 8 := q2.1 10 8 (by simp [rgD])
          have e9 : υ 10 9 = σ 10 9 := q2.1 10 9 (by simp [rgD])
          refine ok_callVV (M' := M_Tp_keepFraction) (as := [_, _]) 45 rfl rfl ml_X10_89 (t_Tp_keepFraction ⟨by omega, by omega⟩ ⟨by omega, by omega⟩ vb hy2) rfl rfl (Nat.le_of_ble_eq_true rfl) ⟨Nat.le_of_ble_eq_true rfl, Nat.le_of_ble_eq_true rfl⟩ rfl (Nat.le_of_ble_eq_true rfl) (fun ω hω => ?_)
          refine ok_vret 46 rfl rfl rfl ?_
          obtain ⟨k1, k2, k3, k4⟩ := kf_weak vb hy2 hω
          have x7 : ω 10 7 = σ 10 7 := by rw [k1 10 7 (by simp [rgE]), e7]
          have x9 : ω 10 9 = σ 10 9 := by rw [k1 10 9 (by simp [rgE]), e9]
          have x3 : ω 10 3 = υ 10 3 := k1 10 3 (by simp [rgE])
          have x6 : ω 10 6 = υ 10 6 := k1 10 6 (by simp [rgE])
          have x4 : ω 10 4 = υ 10 4 := k1 10 4 (by simp [rgE])
          have x5 : ω 10 5 = υ 10 5 := k1 10 5 (by simp [rgE])
          have x11 : ω 11 = υ 11 := by funext j; exact k1 11 j (by simp [rgE])
          refine ⟨rfl, ?_, ?_⟩
          · obtain ⟨t0, t1, t2, t3, t4, t5, t6, t7, t8, t9⟩ := ra
            have eu : ∀ k, uA υ k → uA ω k := fun k hk => by
              by_cases q : k = υ 10 7 * 8 + υ 10 8
              · rw [q]; exact k3
              · unfold uA; rw [(k4 k q).1, (k4 k q).2]; exact hk
            refine ⟨((q2.1.mono (fun c k w => by simp only [rgD, rgJ] at w ⊢; omega)).tr (k1.mono (fun c k w => by simp only [rgE, rgJ] at w ⊢; omega))), ⟨by rw [x3]; exact t0.1, by rw [x3]; exact t0.2.1, by rw [x6]; exact t0.2.2.1, by rw [x6, x3]; exact t0.2.2.2⟩, by omega, by omega, by omega, by omega, by omega, by omega, fun i j a b c d => eu _ (t7 i j a (by omega) c (by omega)), fun j a b c => ?_, fun q => by have := fw (by omega); omega⟩
            rw [x7, ← e7]
            by_cases q : j = υ 10 8
            · rw [q]; exact k3
            · exact eu _ (t8 j (by omega) b (by omega))
          · unfold QV dv0 dvB dve dvq at hv
            rw [c3, c6, c11] at hv
            rcases hv with ⟨v0, vz, vs⟩ | ⟨v0, v1, vz, v4, v5⟩ | ⟨v0, v1, v2, vz, v4, v5⟩ | ⟨v0, v1, v2, vz, vs⟩
            · have w6 : υ 10 6 = sk (σ 11) (σ 10 3) e := by rw [vs, up_same]
              have w := (sk_sp (σ 11) (σ 10 3) e).1
              refine Or.inl ⟨by rw [x4, vs, up2, up_nk _ _ _ _ (by decide)]; exact hf0, ?_, by omega, by rw [x5, vs, up2, up_nk _ _ _ _ (by decide)]⟩
              unfold PA
              rw [hP, if_neg v0, x11, x3, x6, x7, x9, k2, e8, w6]
              have y12 : ω 12 = uf (σ 12) (σ 10 7 * 8 + σ 10 8) (a / (Int.gcd 1 a : Int)) := by rw [hω, up_fn _ _ _ (by decide), up_fn _ _ _ (by decide), up_uf, vs, up2, up_fn _ _ _ (by decide), up_nk _ _ _ _ (by decide), up_nk _ _ _ _ (by decide), vz]
              have y13 : ω 13 = uf (σ 13) (σ 10 7 * 8 + σ 10 8) (1 / (Int.gcd 1 a : Int)) := by rw [hω, up_fn _ _ _ (by decide), up_uf, up_fn _ _ _ (by decide), vs, up2, up_fn _ _ _ (by decide), up_nk _ _ _ _ (by decide), up_nk _ _ _ _ (by decide), vz]
              have y3 : υ 10 3 = σ 10 3 := q2.1 10 3 (by simp [rgD])
              have y11 : υ 11 = σ 11 := by funext j; exact q2.1 11 j (by simp [rgD])
              rw [y12, y13, y3, y11]
            · refine Or.inr ⟨by rw [x4, v4]; decide, ?_, ?_⟩
              · unfold PA; rw [hP, if_pos (Classical.not_not.mp v0), if_pos v1, x4, v4]
              · unfold PA; rw [hP, if_pos (Classical.not_not.mp v0), if_pos v1, x5, v5]
            · refine Or.inr ⟨by rw [x4, v4]; decide, ?_, ?_⟩
              · unfold PA; rw [hP, if_pos (Classical.not_not.mp v0), if_neg v1, if_pos v2, x4, v4]
              · unfold PA; rw [hP, if_pos (Classical.not_not.mp v0), if_neg v1, if_pos v2, x5, v5]
            · have w6 : υ 10 6 = de (σ 11) (σ 10 3) (sk (σ 11) (σ 10 3) (sk (σ 11) (σ 10 3) e + 1)) := by rw [vs, up_same]
              have w1 := (sk_sp (σ 11) (σ 10 3) e).1
              have w2 := (sk_sp (σ 11) (σ 10 3) (sk (σ 11) (σ 10 3) e + 1)).1
              have w3 := (de_sp (σ 11) (σ 10 3) (sk (σ 11) (σ 10 3) (sk (σ 11) (σ 10 3) e + 1))).1
              refine Or.inl ⟨by rw [x4, vs, up2, up_nk _ _ _ _ (by decide)]; exact hf0, ?_, by omega, by rw [x5, vs, up2, up_nk _ _ _ _ (by decide)]⟩
              unfold PA
              rw [hP, if_pos (Classical.not_not.mp v0), if_neg v1, if_neg v2, x11, x3, x6, x7, x9, k2, e8, w6, ← vz]
              have y12 : ω 12 = uf (σ 12) (σ 10 7 * 8 + σ 10 8) (a / (Int.gcd y a : Int)) := by rw [hω, up_fn _ _ _ (by decide), up_fn _ _ _ (by decide), up_uf, vs, up2, up_fn _ _ _ (by decide), up_nk _ _ _ _ (by decide), up_nk _ _ _ _ (by decide)]
              have y13 : ω 13 = uf (σ 13) (σ 10 7 * 8 + σ 10 8) (y / (Int.gcd y a : Int)) := by rw [hω, up_fn _ _ _ (by decide), up_uf, up_fn _ _ _ (by decide), vs, up2, up_fn _ _ _ (by decide), up_nk _ _ _ _ (by decide), up_nk _ _ _ _ (by decide)]
              have y3 : υ 10 3 = σ 10 3 := q2.1 10 3 (by simp [rgD])
              have y11 : υ 11 = σ 11 := by funext j; exact q2.1 11 j (by simp [rgD])
              rw [y12, y13, y3, y11]
        · refine ok_aload_n 27 rfl rfl rfl (ok_getI 28 rfl rfl fl_X10_37 rfl rfl (Or.inl rfl) (ok_aload_n 29 rfl rfl rfl (ok_getI 30 rfl rfl fl_X10_40 rfl rfl (Or.inl rfl) (ok_icmp_ne 31 81 rfl rfl rfl (fun h66 => ?_) (fun h66 => ?_)))))
          · obtain ⟨-, h1, h2, h3, h4, h5, h6, h7, h8, h9⟩ := id h
            have r7 : σ 10 7 ≤ 7 := by omega
            have f7 : σ 10 8 ≤ 7 := by omega
            have fw : 0 < σ 10 7 → σ 10 8 < σ 10 9 := fun q => by have := h9 q; omega
            rw [if_neg (by omega), if_neg (by omega), if_neg (by omega)] at hP
            have h6' : de (σ 11) (σ 10 3) (σ 10 6) - σ 10 6 ≤ 6 := by omega
            have vb := vaD_bd h6'
            obtain ⟨e, ee⟩ : ∃ e, e = de (σ 11) (σ 10 3) (σ 10 6) := ⟨_, rfl⟩
            obtain ⟨a, ea⟩ : ∃ a, a = vaD (σ 11) (σ 10 6) e := ⟨_, rfl⟩
            rw [← ee] at vb ht ht2 hP
            rw [← ea] at vb hP
            have q1 : QD σ (up σ 10 6 e) := ⟨fr_up fr.rf (by simp [rgD]), by rw [up_same]; omega, by rw [up_same]; omega⟩
            have c3 : (up σ 10 6 e) 10 3 = σ 10 3 := up_nk _ _ _ _ (by decide)
            have c6 : (up σ 10 6 e) 10 6 = e := up_same _ _ _ _
            have c11 : (up σ 10 6 e) 11 = σ 11 := up_fn _ _ _ (by decide)
            refine ok_aload_n 38 rfl rfl rfl (ok_callVI (M' := M_Tp_readNumber) (as := []) 39 rfl rfl ml_X10_83 (t_Tp_readNumber h0 h6') rfl rfl (Nat.le_of_ble_eq_true rfl) ⟨Nat.le_of_ble_eq_true rfl, Nat.le_of_ble_eq_true rfl⟩ rfl (Nat.le_of_ble_eq_true rfl) (fun σ' z hz => ?_))
            rw [hz.1, hz.2]
            clear hz z σ'
            rw [← ee, ← ea]
            refine ok_ist1 40 rfl rfl rfl (ok_aload_n 41 rfl rfl rfl (ok_iload_n 42 rfl rfl rfl (ok_aload_n 43 rfl rfl rfl (ok_callVI (M' := M_Tp_readDivisor) (as := []) 44 rfl rfl ml_X10_86 (t_Tp_readDivisor (QD_P h0 q1)) rfl rfl (Nat.le_of_ble_eq_true rfl) ⟨Nat.le_of_ble_eq_true rfl, Nat.le_of_ble_eq_true rfl⟩ rfl (Nat.le_of_ble_eq_true rfl) (fun υ y hy => ?_)))))
            have q2 := QD_tr q1 hy.1
            have hy2 : 1 ≤ y ∧ y ≤ 999999 := ⟨hy.2.1, hy.2.2.1⟩
            have hv := hy.2.2.2
            have ra := RA_D h q2
            have e7 : υ 10 7 = σ 10 7 := q2.1 10 7 (by simp [rgD])
            have e8 : υ 10 8 = σ 10 8 := q2.1 10 8 (by simp [rgD])
            have e9 : υ 10 9 = σ 10 9 := q2.1 10 9 (by simp [rgD])
            refine ok_callVV (M' := M_Tp_keepFraction) (as := [_, _]) 45 rfl rfl ml_X10_89 (t_Tp_keepFraction ⟨by omega, by omega⟩ ⟨by omega, by omega⟩ vb hy2) rfl rfl (Nat.le_of_ble_eq_true rfl) ⟨Nat.le_of_ble_eq_true rfl, Nat.le_of_ble_eq_true rfl⟩ rfl (Nat.le_of_ble_eq_true rfl) (fun ω hω => ?_)
            refine ok_vret 46 rfl rfl rfl ?_
            obtain ⟨k1, k2, k3, k4⟩ := kf_weak vb hy2 hω
            have x7 : ω 10 7 = σ 10 7 := by rw [k1 10 7 (by simp [rgE]), e7]
            have x9 : ω 10 9 = σ 10 9 := by rw [k1 10 9 (by simp [rgE]), e9]
            have x3 : ω 10 3 = υ 10 3 := k1 10 3 (by simp [rgE])
            have x6 : ω 10 6 = υ 10 6 := k1 10 6 (by simp [rgE])
            have x4 : ω 10 4 = υ 10 4 := k1 10 4 (by simp [rgE])
            have x5 : ω 10 5 = υ 10 5 := k1 10 5 (by simp [rgE])
            have x11 : ω 11 = υ 11 := by funext j; exact k1 11 j (by simp [rgE])
            refine ⟨rfl, ?_, ?_⟩
            · obtain ⟨t0, t1, t2, t3, t4, t5, t6, t7, t8, t9⟩ := ra
              have eu : ∀ k, uA υ k → uA ω k := fun k hk => by
                by_cases q : k = υ 10 7 * 8 + υ 10 8
                · rw [q]; exact k3
                · unfold uA; rw [(k4 k q).1, (k4 k q).2]; exact hk
              refine ⟨((q2.1.mono (fun c k w => by simp only [rgD, rgJ] at w ⊢; omega)).tr (k1.mono (fun c k w => by simp only [rgE, rgJ] at w ⊢; omega))), ⟨by rw [x3]; exact t0.1, by rw [x3]; exact t0.2.1, by rw [x6]; exact t0.2.2.1, by rw [x6, x3]; exact t0.2.2.2⟩, by omega, by omega, by omega, by omega, by omega, by omega, fun i j a b c d => eu _ (t7 i j a (by omega) c (by omega)), fun j a b c => ?_, fun q => by have := fw (by omega); omega⟩
              rw [x7, ← e7]
              by_cases q : j = υ 10 8
              · rw [q]; exact k3
              · exact eu _ (t8 j (by omega) b (by omega))
            · unfold QV dv0 dvB dve dvq at hv
              rw [c3, c6, c11] at hv
              rcases hv with ⟨v0, vz, vs⟩ | ⟨v0, v1, vz, v4, v5⟩ | ⟨v0, v1, v2, vz, v4, v5⟩ | ⟨v0, v1, v2, vz, vs⟩
              · have w6 : υ 10 6 = sk (σ 11) (σ 10 3) e := by rw [vs, up_same]
                have w := (sk_sp (σ 11) (σ 10 3) e).1
                refine Or.inl ⟨by rw [x4, vs, up2, up_nk _ _ _ _ (by decide)]; exact hf0, ?_, by omega, by rw [x5, vs, up2, up_nk _ _ _ _ (by decide)]⟩
                unfold PA
                rw [hP, if_neg v0, x11, x3, x6, x7, x9, k2, e8, w6]
                have y12 : ω 12 = uf (σ 12) (σ 10 7 * 8 + σ 10 8) (a / (Int.gcd 1 a : Int)) := by rw [hω, up_fn _ _ _ (by decide), up_fn _ _ _ (by decide), up_uf, vs, up2, up_fn _ _ _ (by decide), up_nk _ _ _ _ (by decide), up_nk _ _ _ _ (by decide), vz]
                have y13 : ω 13 = uf (σ 13) (σ 10 7 * 8 + σ 10 8) (1 / (Int.gcd 1 a : Int)) := by rw [hω, up_fn _ _ _ (by decide), up_uf, up_fn _ _ _ (by decide), vs, up2, up_fn _ _ _ (by decide), up_nk _ _ _ _ (by decide), up_nk _ _ _ _ (by decide), vz]
                have y3 : υ 10 3 = σ 10 3 := q2.1 10 3 (by simp [rgD])
                have y11 : υ 11 = σ 11 := by funext j; exact q2.1 11 j (by simp [rgD])
                rw [y12, y13, y3, y11]
              · refine Or.inr ⟨by rw [x4, v4]; decide, ?_, ?_⟩
                · unfold PA; rw [hP, if_pos (Classical.not_not.mp v0), if_pos v1, x4, v4]
                · unfold PA; rw [hP, if_pos (Classical.not_not.mp v0), if_pos v1, x5, v5]
              · refine Or.inr ⟨by rw [x4, v4]; decide, ?_, ?_⟩
                · unfold PA; rw [hP, if_pos (Classical.not_not.mp v0), if_neg v1, if_pos v2, x4, v4]
                · unfold PA; rw [hP, if_pos (Classical.not_not.mp v0), if_neg v1, if_pos v2, x5, v5]
              · have w6 : υ 10 6 = de (σ 11) (σ 10 3) (sk (σ 11) (σ 10 3) (sk (σ 11) (σ 10 3) e + 1)) := by rw [vs, up_same]
                have w1 := (sk_sp (σ 11) (σ 10 3) e).1
                have w2 := (sk_sp (σ 11) (σ 10 3) (sk (σ 11) (σ 10 3) e + 1)).1
                have w3 := (de_sp (σ 11) (σ 10 3) (sk (σ 11) (σ 10 3) (sk (σ 11) (σ 10 3) e + 1))).1
                refine Or.inl ⟨by rw [x4, vs, up2, up_nk _ _ _ _ (by decide)]; exact hf0, ?_, by omega, by rw [x5, vs, up2, up_nk _ _ _ _ (by decide)]⟩
                unfold PA
                rw [hP, if_pos (Classical.not_not.mp v0), if_neg v1, if_neg v2, x11, x3, x6, x7, x9, k2, e8, w6, ← vz]
                have y12 : ω 12 = uf (σ 12) (σ 10 7 * 8 + σ 10 8) (a / (Int.gcd y a : Int)) := by rw [hω, up_fn _ _ _ (by decide), up_fn _ _ _ (by decide), up_uf, vs, up2, up_fn _ _ _ (by decide), up_nk _ _ _ _ (by decide), up_nk _ _ _ _ (by decide)]
                have y13 : ω 13 = uf (σ 13) (σ 10 7 * 8 + σ 10 8) (y / (Int.gcd y a : Int)) := by rw [hω, up_fn _ _ _ (by decide), up_uf, up_fn _ _ _ (by decide), vs, up2, up_fn _ _ _ (by decide), up_nk _ _ _ _ (by decide), up_nk _ _ _ _ (by decide)]
                have y3 : υ 10 3 = σ 10 3 := q2.1 10 3 (by simp [rgD])
                have y11 : υ 11 = σ 11 := by funext j; exact q2.1 11 j (by simp [rgD])
                rw [y12, y13, y3, y11]
          · refine ok_aload_n 32 rfl rfl rfl (ok_iconst 33 rfl rfl (by decide) (ok_aload_n 34 rfl rfl rfl (ok_getI 35 rfl rfl fl_X10_31 rfl rfl (Or.inl rfl) (ok_callVV (M' := M_Tp_fail) (as := [_, _]) 36 rfl rfl ml_X10_75 (s_Tp_fail) rfl rfl (Nat.le_of_ble_eq_true rfl) ⟨Nat.le_of_ble_eq_true rfl, Nat.le_of_ble_eq_true rfl⟩ rfl (Nat.le_of_ble_eq_true rfl) (fun σ' hz => ?_)))))
            rw [hz]
            clear hz σ'
            refine ok_goto 37 95 rfl rfl rfl (ok_vret 46 rfl rfl rfl ?_)
            refine ⟨rfl, QJ_D h (QD_f h0 _ _), Or.inr ⟨by simp [up_if], ?_, ?_⟩⟩
            · show (PA σ).1 = _; unfold PA; rw [hP, if_neg (by omega), if_neg (by omega), if_pos (by omega)]; simp [up_if]
            · show (PA σ).2.1 = _; unfold PA; rw [hP, if_neg (by omega), if_neg (by omega), if_pos (by omega)]; simp [up_if]
      · refine ok_aload_n 18 rfl rfl rfl (ok_iconst 19 rfl rfl (by decide) (ok_aload_n 20 rfl rfl rfl (ok_getI 21 rfl rfl fl_X10_31 rfl rfl (Or.inl rfl) (ok_callVV (M' := M_Tp_fail) (as := [_, _]) 22 rfl rfl ml_X10_75 (s_Tp_fail) rfl rfl (Nat.le_of_ble_eq_true rfl) ⟨Nat.le_of_ble_eq_true rfl, Nat.le_of_ble_eq_true rfl⟩ rfl (Nat.le_of_ble_eq_true rfl) (fun σ' hz => ?_)))))
        rw [hz]
        clear hz σ'
        refine ok_goto 23 95 rfl rfl rfl (ok_vret 46 rfl rfl rfl ?_)
        refine ⟨rfl, QJ_D h (QD_f h0 _ _), Or.inr ⟨by simp [up_if], ?_, ?_⟩⟩
        · show (PA σ).1 = _; unfold PA; rw [hP, if_neg (by omega), if_pos (by omega)]; simp [up_if]
        · show (PA σ).2.1 = _; unfold PA; rw [hP, if_neg (by omega), if_pos (by omega)]; simp [up_if]
  · refine ok_aload_n 4 rfl rfl rfl (ok_iconst 5 rfl rfl (by decide) (ok_aload_n 6 rfl rfl rfl (ok_getI 7 rfl rfl fl_X10_31 rfl rfl (Or.inl rfl) (ok_callVV (M' := M_Tp_fail) (as := [_, _]) 8 rfl rfl ml_X10_75 (s_Tp_fail) rfl rfl (Nat.le_of_ble_eq_true rfl) ⟨Nat.le_of_ble_eq_true rfl, Nat.le_of_ble_eq_true rfl⟩ rfl (Nat.le_of_ble_eq_true rfl) (fun σ' hz => ?_)))))
    rw [hz]
    clear hz σ'
    refine ok_goto 9 95 rfl rfl rfl (ok_vret 46 rfl rfl rfl ?_)
    refine ⟨rfl, QJ_D h (QD_f h0 _ _), Or.inr ⟨by simp [up_if], ?_, ?_⟩⟩
    · show (PA σ).1 = _; unfold PA; rw [hP, if_pos (by omega)]; simp [up_if]
    · show (PA σ).2.1 = _; unfold PA; rw [hP, if_pos (by omega)]; simp [up_if]
theorem t_Tp_closeRow {σ : eS} (h : RA σ) (hat : σ 10 6 < σ 10 3) (hb : σ 11 (σ 10 6) = 59) (hf0 : σ 10 4 = 0) : MtV shA M_Tp_closeRow [vr 10] σ (fun σ' => QJ σ σ' ∧ KA σ σ') := by
  refine Mt.of okM_Tp_closeRow (Nat.le_of_ble_eq_true rfl) (fun hk hg => ?_)
  obtain ⟨h0, h1, h2, h3, h4, h5, h6, h7, h8, h9⟩ := id h
  obtain ⟨p1, p2, p3, p4⟩ := id h0
  have hq : sk (σ 11) (σ 10 3) (σ 10 6) = σ 10 6 := sk_0 (fun q => by have := q.2; omega)
  have hP := PR_59 (r := σ 10 7) (k := σ 10 8) (w := σ 10 9) (ab := σ 12) (un := σ 13) hq hat hb
  refine ok_aload_n 0 rfl rfl rfl (ok_getI 1 rfl rfl fl_X10_34 rfl rfl (Or.inl rfl) (ok_bipush 2 rfl rfl (by decide) (by decide) (ok_icmp_ne 3 21 rfl rfl rfl (fun h6 => ?_) (fun h6 => ?_))))
  · refine ok_aload_n 10 rfl rfl rfl (ok_getI 11 rfl rfl fl_X10_34 rfl rfl (Or.inl rfl) (ok_if_le 12 51 rfl rfl rfl (fun h25 => ?_) (fun h25 => ?_)))
    · rw [if_neg (by omega), if_neg (by omega)] at hP
      have fin : ∀ W : Int, W = (if σ 10 7 = 0 then σ 10 8 else σ 10 9) → ∀ τ : eS, fr (fun c k => c = 10 ∧ 6 ≤ k ∧ k ≤ 9) σ τ → τ 10 6 = σ 10 6 + 1 → τ 10 7 = σ 10 7 + 1 → τ 10 8 = 0 → τ 10 9 = W → QJ σ τ ∧ KA σ τ := fun W hW τ f t6 t7 t8 t9 => by
        have g3 : τ 10 3 = σ 10 3 := f 10 3 (by omega)
        have g4 : τ 10 4 = σ 10 4 := f 10 4 (by omega)
        have g5 : τ 10 5 = σ 10 5 := f 10 5 (by omega)
        have g11 : τ 11 = σ 11 := by funext j; exact f 11 j (by omega)
        have g12 : τ 12 = σ 12 := by funext j; exact f 12 j (by omega)
        have g13 : τ 13 = σ 13 := by funext j; exact f 13 j (by omega)
        have eu : ∀ k, uA τ k ↔ uA σ k := fun k => by unfold uA; rw [g12, g13]
        have hWb : 0 ≤ W ∧ W ≤ 8 := by rw [hW]; split <;> omega
        refine ⟨⟨f.mono (fun c k w => by simp only [rgJ]; omega), ⟨by omega, by omega, by omega, by omega⟩, by omega, by omega, by omega, by omega, by omega, by omega, fun i j a b c d => ?_, fun j a b c => by omega, fun q => by omega⟩, Or.inl ⟨by omega, ?_, by omega, g5⟩⟩
        · rw [eu]
          rw [t7] at b
          rw [t9, hW] at d
          by_cases z : σ 10 7 = 0
          · rw [if_pos z] at d
            have := h8 j (by omega) c d
            rw [show i = σ 10 7 by omega]
            exact this
          · rw [if_neg z] at d
            rcases (by omega : i < σ 10 7 ∨ i = σ 10 7) with w | w
            · exact h7 i j a w c d
            · rw [w]; exact h8 j (by omega) c (by omega)
        · unfold PA
          rw [hP, g11, g3, t6, t7, t8, t9, g12, g13, hW]
      refine ok_aload_n 24 rfl rfl rfl (ok_getI 25 rfl rfl fl_X10_34 rfl rfl (Or.inl rfl) (ok_if_ne 26 66 rfl rfl rfl (fun h55 => ?_) (fun h55 => ?_)))
      · refine ok_aload_n 31 rfl rfl rfl (ok_dup 32 rfl rfl rfl (ok_getI 33 rfl rfl fl_X10_34 rfl rfl (Or.inl rfl) (ok_iconst 34 rfl rfl (by decide) (ok_iadd 35 rfl rfl (by first | omega | (simp [up_if]; omega) | (simp [up_if] at *; omega)) (ok_putI 36 rfl rfl fl_X10_34 rfl rfl rfl rfl (ok_aload_n 37 rfl rfl rfl (ok_iconst 38 rfl rfl (by decide) (ok_putI 39 rfl rfl fl_X10_37 rfl rfl rfl rfl (ok_aload_n 40 rfl rfl rfl (ok_dup 41 rfl rfl rfl (ok_getI 42 rfl rfl fl_X10_31 rfl rfl (Or.inl rfl) (ok_iconst 43 rfl rfl (by decide) (ok_iadd 44 rfl rfl (by first | omega | (simp [up_if]; omega) | (simp [up_if] at *; omega)) (ok_putI 45 rfl rfl fl_X10_31 rfl rfl rfl rfl (ok_vret 46 rfl rfl rfl ?_)))))))))))))))
        refine ⟨rfl, fin _ ?_ _ (fr.mono (P := fun c k => c = 10 ∧ 6 ≤ k ∧ k ≤ 9) ?_ (fun c k w => w)) ?_ ?_ ?_ rfl⟩
        · simp [up_if]; try omega
        · first | exact fr_up (fr_up (fr_up (fr_up fr.rf (by simp)) (by simp)) (by simp)) (by simp) | exact fr_up (fr_up (fr_up fr.rf (by simp)) (by simp)) (by simp)
        · simp [up_if]
        · simp [up_if]
        · simp [up_if]
      · refine ok_aload_n 27 rfl rfl rfl (ok_aload_n 28 rfl rfl rfl (ok_getI 29 rfl rfl fl_X10_37 rfl rfl (Or.inl rfl) (ok_putI 30 rfl rfl fl_X10_40 rfl rfl rfl rfl (ok_aload_n 31 rfl rfl rfl (ok_dup 32 rfl rfl rfl (ok_getI 33 rfl rfl fl_X10_34 rfl rfl (Or.inl rfl) (ok_iconst 34 rfl rfl (by decide) (ok_iadd 35 rfl rfl (by first | omega | (simp [up_if]; omega) | (simp [up_if] at *; omega)) (ok_putI 36 rfl rfl fl_X10_34 rfl rfl rfl rfl (ok_aload_n 37 rfl rfl rfl (ok_iconst 38 rfl rfl (by decide) (ok_putI 39 rfl rfl fl_X10_37 rfl rfl rfl rfl (ok_aload_n 40 rfl rfl rfl (ok_dup 41 rfl rfl rfl (ok_getI 42 rfl rfl fl_X10_31 rfl rfl (Or.inl rfl) (ok_iconst 43 rfl rfl (by decide) (ok_iadd 44 rfl rfl (by first | omega | (simp [up_if]; omega) | (simp [up_if] at *; omega)) (ok_putI 45 rfl rfl fl_X10_31 rfl rfl rfl rfl (ok_vret 46 rfl rfl rfl ?_)))))))))))))))))))
        refine ⟨rfl, fin _ ?_ _ (fr.mono (P := fun c k => c = 10 ∧ 6 ≤ k ∧ k ≤ 9) ?_ (fun c k w => w)) ?_ ?_ ?_ rfl⟩
        · simp [up_if]; try omega
        · first | exact fr_up (fr_up (fr_up (fr_up fr.rf (by simp)) (by simp)) (by simp)) (by simp) | exact fr_up (fr_up (fr_up fr.rf (by simp)) (by simp)) (by simp)
        · simp [up_if]
        · simp [up_if]
        · simp [up_if]
    · refine ok_aload_n 13 rfl rfl rfl (ok_getI 14 rfl rfl fl_X10_37 rfl rfl (Or.inl rfl) (ok_aload_n 15 rfl rfl rfl (ok_getI 16 rfl rfl fl_X10_40 rfl rfl (Or.inl rfl) (ok_icmp_eq 17 51 rfl rfl rfl (fun h36 => ?_) (fun h36 => ?_)))))
      · rw [if_neg (by omega), if_neg (by omega)] at hP
        have fin : ∀ W : Int, W = (if σ 10 7 = 0 then σ 10 8 else σ 10 9) → ∀ τ : eS, fr (fun c k => c = 10 ∧ 6 ≤ k ∧ k ≤ 9) σ τ → τ 10 6 = σ 10 6 + 1 → τ 10 7 = σ 10 7 + 1 → τ 10 8 = 0 → τ 10 9 = W → QJ σ τ ∧ KA σ τ := fun W hW τ f t6 t7 t8 t9 => by
          have g3 : τ 10 3 = σ 10 3 := f 10 3 (by omega)
          have g4 : τ 10 4 = σ 10 4 := f 10 4 (by omega)
          have g5 : τ 10 5 = σ 10 5 := f 10 5 (by omega)
          have g11 : τ 11 = σ 11 := by funext j; exact f 11 j (by omega)
          have g12 : τ 12 = σ 12 := by funext j; exact f 12 j (by omega)
          have g13 : τ 13 = σ 13 := by funext j; exact f 13 j (by omega)
          have eu : ∀ k, uA τ k ↔ uA σ k := fun k => by unfold uA; rw [g12, g13]
          have hWb : 0 ≤ W ∧ W ≤ 8 := by rw [hW]; split <;> omega
          refine ⟨⟨f.mono (fun c k w => by simp only [rgJ]; omega), ⟨by omega, by omega, by omega, by omega⟩, by omega, by omega, by omega, by omega, by omega, by omega, fun i j a b c d => ?_, fun j a b c => by omega, fun q => by omega⟩, Or.inl ⟨by omega, ?_, by omega, g5⟩⟩
          · rw [eu]
            rw [t7] at b
            rw [t9, hW] at d
            by_cases z : σ 10 7 = 0
            · rw [if_pos z] at d
              have := h8 j (by omega) c d
              rw [show i = σ 10 7 by omega]
              exact this
            · rw [if_neg z] at d
              rcases (by omega : i < σ 10 7 ∨ i = σ 10 7) with w | w
              · exact h7 i j a w c d
              · rw [w]; exact h8 j (by omega) c (by omega)
          · unfold PA
            rw [hP, g11, g3, t6, t7, t8, t9, g12, g13, hW]
        refine ok_aload_n 24 rfl rfl rfl (ok_getI 25 rfl rfl fl_X10_34 rfl rfl (Or.inl rfl) (ok_if_ne 26 66 rfl rfl rfl (fun h55 => ?_) (fun h55 => ?_)))
        · refine ok_aload_n 31 rfl rfl rfl (ok_dup 32 rfl rfl rfl (ok_getI 33 rfl rfl fl_X10_34 rfl rfl (Or.inl rfl) (ok_iconst 34 rfl rfl (by decide) (ok_iadd 35 rfl rfl (by first | omega | (simp [up_if]; omega) | (simp [up_if] at *; omega)) (ok_putI 36 rfl rfl fl_X10_34 rfl rfl rfl rfl (ok_aload_n 37 rfl rfl rfl (ok_iconst 38 rfl rfl (by decide) (ok_putI 39 rfl rfl fl_X10_37 rfl rfl rfl rfl (ok_aload_n 40 rfl rfl rfl (ok_dup 41 rfl rfl rfl (ok_getI 42 rfl rfl fl_X10_31 rfl rfl (Or.inl rfl) (ok_iconst 43 rfl rfl (by decide) (ok_iadd 44 rfl rfl (by first | omega | (simp [up_if]; omega) | (simp [up_if] at *; omega)) (ok_putI 45 rfl rfl fl_X10_31 rfl rfl rfl rfl (ok_vret 46 rfl rfl rfl ?_)))))))))))))))
          refine ⟨rfl, fin _ ?_ _ (fr.mono (P := fun c k => c = 10 ∧ 6 ≤ k ∧ k ≤ 9) ?_ (fun c k w => w)) ?_ ?_ ?_ rfl⟩
          · simp [up_if]; try omega
          · first | exact fr_up (fr_up (fr_up (fr_up fr.rf (by simp)) (by simp)) (by simp)) (by simp) | exact fr_up (fr_up (fr_up fr.rf (by simp)) (by simp)) (by simp)
          · simp [up_if]
          · simp [up_if]
          · simp [up_if]
        · refine ok_aload_n 27 rfl rfl rfl (ok_aload_n 28 rfl rfl rfl (ok_getI 29 rfl rfl fl_X10_37 rfl rfl (Or.inl rfl) (ok_putI 30 rfl rfl fl_X10_40 rfl rfl rfl rfl (ok_aload_n 31 rfl rfl rfl (ok_dup 32 rfl rfl rfl (ok_getI 33 rfl rfl fl_X10_34 rfl rfl (Or.inl rfl) (ok_iconst 34 rfl rfl (by decide) (ok_iadd 35 rfl rfl (by first | omega | (simp [up_if]; omega) | (simp [up_if] at *; omega)) (ok_putI 36 rfl rfl fl_X10_34 rfl rfl rfl rfl (ok_aload_n 37 rfl rfl rfl (ok_iconst 38 rfl rfl (by decide) (ok_putI 39 rfl rfl fl_X10_37 rfl rfl rfl rfl (ok_aload_n 40 rfl rfl rfl (ok_dup 41 rfl rfl rfl (ok_getI 42 rfl rfl fl_X10_31 rfl rfl (Or.inl rfl) (ok_iconst 43 rfl rfl (by decide) (ok_iadd 44 rfl rfl (by first | omega | (simp [up_if]; omega) | (simp [up_if] at *; omega)) (ok_putI 45 rfl rfl fl_X10_31 rfl rfl rfl rfl (ok_vret 46 rfl rfl rfl ?_)))))))))))))))))))
          refine ⟨rfl, fin _ ?_ _ (fr.mono (P := fun c k => c = 10 ∧ 6 ≤ k ∧ k ≤ 9) ?_ (fun c k w => w)) ?_ ?_ ?_ rfl⟩
          · simp [up_if]; try omega
          · first | exact fr_up (fr_up (fr_up (fr_up fr.rf (by simp)) (by simp)) (by simp)) (by simp) | exact fr_up (fr_up (fr_up fr.rf (by simp)) (by simp)) (by simp)
          · simp [up_if]
          · simp [up_if]
          · simp [up_if]
      · refine ok_aload_n 18 rfl rfl rfl (ok_iconst 19 rfl rfl (by decide) (ok_aload_n 20 rfl rfl rfl (ok_getI 21 rfl rfl fl_X10_31 rfl rfl (Or.inl rfl) (ok_callVV (M' := M_Tp_fail) (as := [_, _]) 22 rfl rfl ml_X10_75 (s_Tp_fail) rfl rfl (Nat.le_of_ble_eq_true rfl) ⟨Nat.le_of_ble_eq_true rfl, Nat.le_of_ble_eq_true rfl⟩ rfl (Nat.le_of_ble_eq_true rfl) (fun σ' hz => ?_)))))
        rw [hz]
        clear hz σ'
        refine ok_goto 23 91 rfl rfl rfl (ok_vret 46 rfl rfl rfl ?_)
        refine ⟨rfl, QJ_D h (QD_f h0 _ _), Or.inr ⟨by simp [up_if], ?_, ?_⟩⟩
        · show (PA σ).1 = _; unfold PA; rw [hP, if_neg (by omega), if_pos (by omega)]; simp [up_if]
        · show (PA σ).2.1 = _; unfold PA; rw [hP, if_neg (by omega), if_pos (by omega)]; simp [up_if]
  · refine ok_aload_n 4 rfl rfl rfl (ok_iconst 5 rfl rfl (by decide) (ok_aload_n 6 rfl rfl rfl (ok_getI 7 rfl rfl fl_X10_31 rfl rfl (Or.inl rfl) (ok_callVV (M' := M_Tp_fail) (as := [_, _]) 8 rfl rfl ml_X10_75 (s_Tp_fail) rfl rfl (Nat.le_of_ble_eq_true rfl) ⟨Nat.le_of_ble_eq_true rfl, Nat.le_of_ble_eq_true rfl⟩ rfl (Nat.le_of_ble_eq_true rfl) (fun σ' hz => ?_)))))
    rw [hz]
    clear hz σ'
    refine ok_goto 9 91 rfl rfl rfl (ok_vret 46 rfl rfl rfl ?_)
    refine ⟨rfl, QJ_D h (QD_f h0 _ _), Or.inr ⟨by simp [up_if], ?_, ?_⟩⟩
    · show (PA σ).1 = _; unfold PA; rw [hP, if_pos (by omega)]; simp [up_if]
    · show (PA σ).2.1 = _; unfold PA; rw [hP, if_pos (by omega)]; simp [up_if]
theorem PA_bl {σ : eS} (hb : blA (σ 11) (σ 10 3) (σ 10 6)) : PA (up σ 10 6 (σ 10 6 + 1)) = PA σ := by
  unfold PA
  rw [up_same, up_fn _ _ _ (show (11 : Nat) ≠ 10 by decide), up_fn _ _ _ (show (12 : Nat) ≠ 10 by decide), up_fn _ _ _ (show (13 : Nat) ≠ 10 by decide), up_nk _ _ _ _ (by decide : (3 : Int) ≠ 6), up_nk _ _ _ _ (by decide : (7 : Int) ≠ 6), up_nk _ _ _ _ (by decide : (8 : Int) ≠ 6), up_nk _ _ _ _ (by decide : (9 : Int) ≠ 6)]
  refine (PR_sk ?_).symm
  exact sk_mid (by omega) (fun i a b => by rw [show i = σ 10 6 by omega]; exact hb)
theorem t_Tp_readPiece {σ : eS} (h : RA σ) (hat : σ 10 6 < σ 10 3) (hf0 : σ 10 4 = 0) : MtV shA M_Tp_readPiece [vr 10] σ (fun σ' => QJ σ σ' ∧ KA σ σ') := by
  refine Mt.of okM_Tp_readPiece (Nat.le_of_ble_eq_true rfl) (fun hk hg => ?_)
  have h0 := h.1
  obtain ⟨p1, p2, p3, p4⟩ := id h0
  refine ok_aload_n 0 rfl rfl rfl (ok_aload_n 1 rfl rfl rfl (ok_getI 2 rfl rfl fl_X10_31 rfl rfl (Or.inl rfl) (ok_callVI (M' := M_Tp_isBlank) (as := [_]) 3 rfl rfl ml_X10_58 (s_Tp_isBlank ⟨p1, p2⟩ p3) rfl rfl (Nat.le_of_ble_eq_true rfl) ⟨Nat.le_of_ble_eq_true rfl, Nat.le_of_ble_eq_true rfl⟩ rfl (Nat.le_of_ble_eq_true rfl) (fun σ' z1 a1 => ?_))))
  obtain ⟨hs_, a1⟩ := a1
  rw [hs_]; clear hs_ σ'
  refine ok_if_eq 4 24 rfl rfl rfl (fun h8 => ?_) (fun h8 => ?_)
  · refine ok_aload_n 12 rfl rfl rfl (ok_aload_n 13 rfl rfl rfl (ok_getI 14 rfl rfl fl_X10_31 rfl rfl (Or.inl rfl) (ok_bipush 15 rfl rfl (by decide) (by decide) (ok_callVI (M' := M_Tp_isSign) (as := [_, _]) 16 rfl rfl ml_X10_62 (s_Tp_isSign ⟨p1, p2⟩ p3) rfl rfl (Nat.le_of_ble_eq_true rfl) ⟨Nat.le_of_ble_eq_true rfl, Nat.le_of_ble_eq_true rfl⟩ rfl (Nat.le_of_ble_eq_true rfl) (fun σ' z2 a2 => ?_)))))
    obtain ⟨hs_, a2⟩ := a2
    rw [hs_]; clear hs_ σ'
    refine ok_if_eq 17 44 rfl rfl rfl (fun h34 => ?_) (fun h34 => ?_)
    · refine ok_aload_n 21 rfl rfl rfl (ok_aload_n 22 rfl rfl rfl (ok_getI 23 rfl rfl fl_X10_31 rfl rfl (Or.inl rfl) (ok_callVI (M' := M_Tp_isDigit) (as := [_]) 24 rfl rfl ml_X10_69 (s_Tp_isDigit ⟨p1, p2⟩ p3) rfl rfl (Nat.le_of_ble_eq_true rfl) ⟨Nat.le_of_ble_eq_true rfl, Nat.le_of_ble_eq_true rfl⟩ rfl (Nat.le_of_ble_eq_true rfl) (fun σ' z3 a3 => ?_))))
      obtain ⟨hs_, a3⟩ := a3
      rw [hs_]; clear hs_ σ'
      refine ok_if_eq 25 62 rfl rfl rfl (fun h52 => ?_) (fun h52 => ?_)
      · refine ok_aload_n 29 rfl rfl rfl (ok_iconst 30 rfl rfl (by decide) (ok_aload_n 31 rfl rfl rfl (ok_getI 32 rfl rfl fl_X10_31 rfl rfl (Or.inl rfl) (ok_callVV (M' := M_Tp_fail) (as := [_, _]) 33 rfl rfl ml_X10_75 (s_Tp_fail) rfl rfl (Nat.le_of_ble_eq_true rfl) ⟨Nat.le_of_ble_eq_true rfl, Nat.le_of_ble_eq_true rfl⟩ rfl (Nat.le_of_ble_eq_true rfl) (fun σ' hz => ?_)))))
        rw [hz]
        clear hz σ'
        refine ok_vret 34 rfl rfl rfl ?_
        have hq : sk (σ 11) (σ 10 3) (σ 10 6) = σ 10 6 := sk_0 (fun q => by unfold blA at q; omega)
        have hP := PR_bad (r := σ 10 7) (k := σ 10 8) (w := σ 10 9) (ab := σ 12) (un := σ 13) hq hat (by omega) (by omega)
        refine ⟨rfl, QJ_D h (QD_f h0 _ _), Or.inr ⟨by simp [up_if], ?_, ?_⟩⟩
        · unfold PA; rw [hP]; simp [up_if]
        · unfold PA; rw [hP]; simp [up_if]
      · refine ok_aload_n 26 rfl rfl rfl (ok_callVV (M' := M_Tp_readFraction) (as := []) 27 rfl rfl ml_X10_72 (t_Tp_readFraction h ⟨by omega, by omega, by omega⟩ hf0) rfl rfl (Nat.le_of_ble_eq_true rfl) ⟨Nat.le_of_ble_eq_true rfl, Nat.le_of_ble_eq_true rfl⟩ rfl (Nat.le_of_ble_eq_true rfl) (fun τ hz => ?_))
        refine ok_goto 28 71 rfl rfl rfl (ok_vret 34 rfl rfl rfl ?_)
        exact ⟨rfl, hz⟩
    · refine ok_aload_n 18 rfl rfl rfl (ok_callVV (M' := M_Tp_closeRow) (as := []) 19 rfl rfl ml_X10_66 (t_Tp_closeRow h hat (by omega) hf0) rfl rfl (Nat.le_of_ble_eq_true rfl) ⟨Nat.le_of_ble_eq_true rfl, Nat.le_of_ble_eq_true rfl⟩ rfl (Nat.le_of_ble_eq_true rfl) (fun τ hz => ?_))
      refine ok_goto 20 71 rfl rfl rfl (ok_vret 34 rfl rfl rfl ?_)
      exact ⟨rfl, hz⟩
  · refine ok_aload_n 5 rfl rfl rfl (ok_dup 6 rfl rfl rfl (ok_getI 7 rfl rfl fl_X10_31 rfl rfl (Or.inl rfl) (ok_iconst 8 rfl rfl (by decide) (ok_iadd 9 rfl rfl (by first | omega | (simp [up_if]; omega) | (simp [up_if] at *; omega)) (ok_putI 10 rfl rfl fl_X10_31 rfl rfl rfl rfl (ok_goto 11 71 rfl rfl rfl (ok_vret 34 rfl rfl rfl ?_)))))))
    exact ⟨rfl, QJ_D h ⟨fr_up fr.rf (by simp [rgD]), by rw [up_same]; omega, by rw [up_same]; omega⟩, Or.inl ⟨by rw [up_nk _ _ _ _ (by decide)]; exact hf0, PA_bl ⟨by omega, by omega⟩, by rw [up_same]; omega, up_nk _ _ _ _ (by decide)⟩⟩
end
section
theorem t_Tp_checkEnd {σ : eS} (h : RA σ) (hc : (σ 10 4 = 0 ∧ σ 10 6 = σ 10 3) ∨ σ 10 4 ≠ 0) : MtV shA M_Tp_checkEnd [vr 10] σ (fun σ' => QJ σ σ' ∧ (σ' 10 4 = 0 → σ' 10 7 = σ' 10 9) ∧ ((σ 10 4 ≠ 0 ∧ σ' = σ) ∨ (σ 10 4 = 0 ∧ (PA σ).1 = σ' 10 4 ∧ (σ' 10 4 = 0 → σ' = σ) ∧ (σ' 10 4 ≠ 0 → (PA σ).2.1 = σ' 10 5)))) := by
  refine Mt.of okM_Tp_checkEnd (Nat.le_of_ble_eq_true rfl) (fun hk hg => ?_)
  have h0 := h.1
  obtain ⟨p1, p2, p3, p4⟩ := id h0
  by_cases hf : σ 10 4 = 0
  · have hl : σ 10 6 = σ 10 3 := by omega
    have hq : sk (σ 11) (σ 10 3) (σ 10 6) = σ 10 6 := sk_0 (fun q => by have := q.1; omega)
    have hP := PR_end (r := σ 10 7) (k := σ 10 8) (w := σ 10 9) (ab := σ 12) (un := σ 13) hq (by omega)
    refine ok_aload_n 0 rfl rfl rfl (ok_getI 1 rfl rfl fl_X10_25 rfl rfl (Or.inl rfl) (ok_if_ne 2 23 rfl rfl rfl (fun h4 => ?_) (fun h4 => ?_)))
    · exact absurd hf h4
    · refine ok_aload_n 3 rfl rfl rfl (ok_getI 4 rfl rfl fl_X10_37 rfl rfl (Or.inl rfl) (ok_if_le 5 23 rfl rfl rfl (fun h11 => ?_) (fun h11 => ?_)))
      · refine ok_aload_n 11 rfl rfl rfl (ok_getI 12 rfl rfl fl_X10_25 rfl rfl (Or.inl rfl) (ok_if_ne 13 50 rfl rfl rfl (fun h27 => ?_) (fun h27 => ?_)))
        · exact absurd hf h27
        · refine ok_aload_n 14 rfl rfl rfl (ok_getI 15 rfl rfl fl_X10_34 rfl rfl (Or.inl rfl) (ok_aload_n 16 rfl rfl rfl (ok_getI 17 rfl rfl fl_X10_40 rfl rfl (Or.inl rfl) (ok_icmp_eq 18 50 rfl rfl rfl (fun h38 => ?_) (fun h38 => ?_)))))
          · refine ok_vret 24 rfl rfl rfl ?_
            refine ⟨rfl, ⟨fr.rf, h⟩, fun _ => by omega, Or.inr ⟨hf, ?_, fun _ => rfl, fun q => absurd hf q⟩⟩
            unfold PA; rw [hP, if_neg (by omega), if_neg (by omega), hf]
          · refine ok_aload_n 19 rfl rfl rfl (ok_iconst 20 rfl rfl (by decide) (ok_aload_n 21 rfl rfl rfl (ok_getI 22 rfl rfl fl_X10_21 rfl rfl (Or.inl rfl) (ok_callVV (M' := M_Tp_fail) (as := [_, _]) 23 rfl rfl ml_X10_75 (s_Tp_fail) rfl rfl (Nat.le_of_ble_eq_true rfl) ⟨Nat.le_of_ble_eq_true rfl, Nat.le_of_ble_eq_true rfl⟩ rfl (Nat.le_of_ble_eq_true rfl) (fun σ' hz => ?_)))))
            rw [hz]
            clear hz σ'
            refine ok_vret 24 rfl rfl rfl ?_
            refine ⟨rfl, QJ_D h (QD_f h0 _ _), fun w => absurd w (by simp [up_if]), Or.inr ⟨hf, ?_, fun w => absurd w (by simp [up_if]), fun _ => ?_⟩⟩
            · unfold PA; rw [hP, if_neg (by omega), if_pos (by omega)]; simp [up_if]
            · unfold PA; rw [hP, if_neg (by omega), if_pos (by omega)]; simp [up_if]
      · refine ok_aload_n 6 rfl rfl rfl (ok_iconst 7 rfl rfl (by decide) (ok_aload_n 8 rfl rfl rfl (ok_getI 9 rfl rfl fl_X10_21 rfl rfl (Or.inl rfl) (ok_callVV (M' := M_Tp_fail) (as := [_, _]) 10 rfl rfl ml_X10_75 (s_Tp_fail) rfl rfl (Nat.le_of_ble_eq_true rfl) ⟨Nat.le_of_ble_eq_true rfl, Nat.le_of_ble_eq_true rfl⟩ rfl (Nat.le_of_ble_eq_true rfl) (fun σ' hz => ?_)))))
        rw [hz]
        clear hz σ'
        have e4 : (up (up σ 10 4 1) 10 5 (σ 10 3)) 10 4 = 1 := by simp [up_if]
        refine ok_aload_n 11 rfl rfl rfl (ok_getI 12 rfl rfl fl_X10_25 rfl rfl (Or.inl rfl) (ok_if_ne 13 50 rfl rfl rfl (fun h27 => ?_) (fun h27 => ?_)))
        · refine ok_vret 24 rfl rfl rfl ?_
          refine ⟨rfl, QJ_D h (QD_f h0 _ _), fun w => absurd w (by simp [up_if]), Or.inr ⟨hf, ?_, fun w => absurd w (by simp [up_if]), fun _ => ?_⟩⟩
          · unfold PA; rw [hP, if_pos (by omega)]; simp [up_if]
          · unfold PA; rw [hP, if_pos (by omega)]; simp [up_if]
        · exact absurd h27 (by rw [e4]; decide)
  · refine ok_aload_n 0 rfl rfl rfl (ok_getI 1 rfl rfl fl_X10_25 rfl rfl (Or.inl rfl) (ok_if_ne 2 23 rfl rfl rfl (fun h4 => ?_) (fun h4 => ?_)))
    · refine ok_aload_n 11 rfl rfl rfl (ok_getI 12 rfl rfl fl_X10_25 rfl rfl (Or.inl rfl) (ok_if_ne 13 50 rfl rfl rfl (fun h27 => ?_) (fun h27 => ?_)))
      · refine ok_vret 24 rfl rfl rfl ?_
        exact ⟨rfl, ⟨fr.rf, h⟩, fun w => absurd w hf, Or.inl ⟨hf, rfl⟩⟩
      · exact absurd h27 hf
    · exact absurd h4 hf
end
section
def lcS (a b l : Int) : Int := if a < 1 ∨ b < 1 then -1 else if l < a / (Int.gcd a b : Int) * b then -1 else a / (Int.gcd a b : Int) * b
theorem t_Nu_leastMultiple {σ : eS} {a b l : Int} (ha : a ≤ 9999999999) (hb : b ≤ 9999999999) (hl : 1 ≤ l ∧ l ≤ 9999999999) : MtL shA M_Nu_leastMultiple [vl a, vl b, vl l] σ (fun σ' z => σ' = σ ∧ z = lcS a b l ∧ (z = -1 ∨ (1 ≤ z ∧ z ≤ l))) := by
  refine Mt.of okM_Nu_leastMultiple (Nat.le_of_ble_eq_true rfl) (fun hk hg => ?_)
  refine ok_lload_n 0 rfl rfl rfl (ok_lconst (w := 1) 1 rfl rfl rfl (by decide) (ok_lcmp_lt 2 3 12 rfl rfl rfl rfl rfl (fun h2 => ?_) (fun h2 => ?_)))
  · refine ok_ldc2 8 (-1) rfl rfl kc_X4_9 (by decide) (ok_lret 9 rfl rfl rfl ?_)
    exact ⟨_, rfl, rfl, by unfold lcS; rw [if_pos (by omega)], Or.inl rfl⟩
  · refine ok_lload_n 4 rfl rfl rfl (ok_lconst (w := 1) 5 rfl rfl rfl (by decide) (ok_lcmp_ge 6 7 16 rfl rfl rfl rfl rfl (fun h8 => ?_) (fun h8 => ?_)))
    · obtain ⟨g1, g2⟩ := gcd_pos (a := a) (b := b) (by omega)
      have hs : lcS a b l = if l < a / (Int.gcd a b : Int) * b then -1 else a / (Int.gcd a b : Int) * b := by unfold lcS; rw [if_neg (by omega)]
      obtain ⟨g, eg⟩ : ∃ g : Int, g = (Int.gcd a b : Int) := ⟨_, rfl⟩
      rw [← eg] at g1 g2 hs
      have d1 := gcd_div (u := a) (g := g) (by omega) g1 g2
      have d2 := div_bd (u := l) (g := b) (B := 9999999999) ⟨by omega, by omega⟩ (by omega)
      refine ok_lload_n 10 rfl rfl rfl (ok_lload_n 11 rfl rfl rfl (ok_lload_n 12 rfl rfl rfl (ok_callSL (M' := M_Nu_greatestDivisor) (as := [_, _]) 13 rfl rfl ml_X4_11 (s_Nu_greatestDivisor (by omega) ⟨by omega, by omega⟩) ⟨Nat.le_of_ble_eq_true rfl, Nat.le_of_ble_eq_true rfl⟩ rfl (Nat.le_of_ble_eq_true rfl) (fun σ' z hz => ?_))))
      rw [hz.1, hz.2]
      clear hz z σ'
      rw [← eg]
      refine ok_ldiv 14 rfl rfl (by first | omega | (simp [up_if]; omega) | (simp [up_if] at *; omega)) (by first | omega | (simp [up_if]; omega) | (simp [up_if] at *; omega)) (ok_lst6 15 rfl rfl rfl (ok_lload 16 rfl rfl rfl (ok_lload 17 rfl rfl rfl (ok_lload_n 18 rfl rfl rfl (ok_ldiv 19 rfl rfl (by first | omega | (simp [up_if]; omega) | (simp [up_if] at *; omega)) (by first | omega | (simp [up_if]; omega) | (simp [up_if] at *; omega)) (ok_lcmp_le 20 21 41 rfl rfl rfl rfl rfl (fun h31 => ?_) (fun h31 => ?_)))))))
      · have m : b * (a / g) ≤ l := mul_le_div (by omega) (by omega)
        rw [Int.mul_comm] at m
        have m1 : 1 * 1 ≤ a / g * b := Int.mul_le_mul (by omega) (by omega) (by decide) (by omega)
        refine ok_lload 24 rfl rfl rfl (ok_lload_n 25 rfl rfl rfl (ok_lmul 26 rfl rfl (by first | omega | (simp [up_if]; omega) | (simp [up_if] at *; omega)) (ok_lret 27 rfl rfl rfl ?_)))
        exact ⟨_, rfl, rfl, by rw [hs, if_neg (by omega)], Or.inr ⟨by omega, by omega⟩⟩
      · refine ok_ldc2 22 (-1) rfl rfl kc_X4_9 (by decide) (ok_goto 23 45 rfl rfl rfl (ok_lret 27 rfl rfl rfl ?_))
        refine ⟨_, rfl, rfl, ?_, Or.inl rfl⟩
        rw [hs]
        rw [if_pos]
        rcases (by omega : l < a / g * b ∨ a / g * b ≤ l) with q | q
        · exact q
        · have := Int.le_ediv_of_mul_le (by omega : 0 < b) q
          omega
    · refine ok_ldc2 8 (-1) rfl rfl kc_X4_9 (by decide) (ok_lret 9 rfl rfl rfl ?_)
      exact ⟨_, rfl, rfl, by unfold lcS; rw [if_pos (by omega)], Or.inl rfl⟩
/-- the common number below, row by row; -1: beyond -/
def cbR (un : Int → Int) (i v : Int) : Nat → Int
  | 0 => v
  | j + 1 => lcS (cbR un i v j) (un (i * 8 + j)) 999999
def cbC (un : Int → Int) (n : Nat) : Nat → Int
  | 0 => 1
  | i + 1 => cbR un i (cbC un n i) n
theorem cbR_s {un : Int → Int} {i v j : Int} (h : 0 ≤ j) : cbR un i v (j + 1).toNat = lcS (cbR un i v j.toNat) (un (i * 8 + j)) 999999 := by
  rw [show (j + 1).toNat = j.toNat + 1 by omega, cbR, show ((j.toNat : Nat) : Int) = j by omega]
theorem cbC_s {un : Int → Int} {n : Nat} {i : Int} (h : 0 ≤ i) : cbC un n (i + 1).toNat = cbR un i (cbC un n i.toNat) n := by
  rw [show (i + 1).toNat = i.toNat + 1 by omega, cbC, show ((i.toNat : Nat) : Int) = i by omega]
theorem t_Tp_commonBelow {σ : eS} (h : uRA σ) : MtI shA M_Tp_commonBelow [vr 10] σ (fun σ' z => σ' = σ ∧ z = cbC (σ 13) (σ 10 7).toNat (σ 10 7).toNat ∧ (z = -1 ∨ (1 ≤ z ∧ z ≤ 999999))) := by
  refine Mt.of okM_Tp_commonBelow (Nat.le_of_ble_eq_true rfl) (fun hk hg => ?_)
  obtain ⟨h1, h2, hu⟩ := h
  refine ok_lconst (w := 1) 0 rfl rfl rfl (by decide) (ok_lst1 1 rfl rfl rfl (ok_iconst 2 rfl rfl (by decide) (ok_ist3 3 rfl rfl rfl ?_)))
  refine lpO2 (fun (v i : Int) => [some (vr 10), some (vl v), none, some (vi i), none]) (fun _ _ => σ) (fun v i => 0 ≤ i ∧ i ≤ σ 10 7 ∧ (v = -1 ∨ (1 ≤ v ∧ v ≤ 999999)) ∧ v = cbC (σ 13) (σ 10 7).toNat i.toNat) (fun _ i => (8 - i).toNat) ?_ 1 0 ⟨by omega, by omega, by omega, rfl⟩
  rintro v i ⟨i1, i2, hv, ev⟩ ih
  refine ok_iload_n 4 rfl rfl rfl (ok_aload_n 5 rfl rfl rfl (ok_getI 6 rfl rfl fl_X10_34 rfl rfl (Or.inl rfl) (ok_icmp_ge 7 57 rfl rfl rfl (fun h9 => ?_) (fun h9 => ?_))))
  · refine ok_lload_n 31 rfl rfl rfl (ok_l2i 32 rfl rfl (by first | omega | (simp [up_if]; omega) | (simp [up_if] at *; omega)) (ok_iret 33 rfl rfl rfl ?_))
    exact ⟨_, rfl, rfl, by rw [ev, show i = σ 10 7 by omega], hv⟩
  · refine ok_iconst 8 rfl rfl (by decide) (ok_ist4 9 rfl rfl rfl ?_)
    refine lpO2 (fun (v' j : Int) => [some (vr 10), some (vl v'), none, some (vi i), some (vi j)]) (fun _ _ => σ) (fun v' j => 0 ≤ j ∧ j ≤ σ 10 7 ∧ (v' = -1 ∨ (1 ≤ v' ∧ v' ≤ 999999)) ∧ v' = cbR (σ 13) i v j.toNat) (fun _ j => (8 - j).toNat) ?_ v 0 ⟨by omega, by omega, hv, rfl⟩
    rintro v' j ⟨j1, j2, hv', ev'⟩ ih2
    refine ok_iload 10 rfl rfl rfl (ok_aload_n 11 rfl rfl rfl (ok_getI 12 rfl rfl fl_X10_34 rfl rfl (Or.inl rfl) (ok_icmp_ge 13 51 rfl rfl rfl (fun h21 => ?_) (fun h21 => ?_))))
    · refine ok_inc3 29 rfl rfl rfl (by first | omega | (simp [up_if]; omega) | (simp [up_if] at *; omega)) (ok_goto 30 4 rfl rfl rfl ?_)
      exact ok_fg [some (vr 10), some (vl v'), none, some (vi (i + 1)), none] ⟨rfl, rfl, rfl, trivial⟩ (ih v' (i + 1) ⟨by omega, by omega, hv', by rw [cbC_s i1, ← ev, ev', show j = σ 10 7 by omega]⟩ (by omega))
    · have hk := hu i j i1 (by omega) j1 (by omega)
      obtain ⟨u1, u2, -⟩ := hk
      refine ok_lload_n 14 rfl rfl rfl (ok_aload_n 15 rfl rfl rfl (ok_getR 16 rfl rfl fl_X10_18 rfl rfl (ok_iload_n 17 rfl rfl rfl (ok_bipush 18 rfl rfl (by decide) (by decide) (ok_imul 19 rfl rfl (by first | omega | (simp [up_if]; omega) | (simp [up_if] at *; omega)) (ok_iload 20 rfl rfl rfl (ok_iadd 21 rfl rfl (by first | omega | (simp [up_if]; omega) | (simp [up_if] at *; omega)) (ok_iald 22 rfl rfl rfl (by first | omega | (simp [up_if]; omega) | (simp [up_if] at *; omega)) (ok_i2l 23 rfl rfl (ok_ldc2 24 (999999) rfl rfl kc_X10_113 (by decide) (ok_callSL (M' := M_Nu_leastMultiple) (as := [_, _, _]) 25 rfl rfl ml_X10_115 (t_Nu_leastMultiple (by omega) (by omega) ⟨by omega, by omega⟩) ⟨Nat.le_of_ble_eq_true rfl, Nat.le_of_ble_eq_true rfl⟩ rfl (Nat.le_of_ble_eq_true rfl) (fun σ' z hz => ?_))))))))))))
      obtain ⟨hs_, hz⟩ := hz
      rw [hs_]; clear hs_ σ'
      refine ok_lst1 26 rfl rfl rfl (ok_inc4 27 rfl rfl rfl (by first | omega | (simp [up_if]; omega) | (simp [up_if] at *; omega)) (ok_goto 28 15 rfl rfl rfl ?_))
      exact ih2 _ (j + 1) ⟨by omega, by omega, hz.2, by rw [cbR_s j1, ← ev']; exact hz.1⟩ (by omega)
def cOk (ab un : Int → Int) (b n : Int) : Prop := ∀ i j, 0 ≤ i → i < n → 0 ≤ j → j < n → ab (i * 8 + j) * (b / un (i * 8 + j)) ≤ 99999999
theorem t_Tp_areCells {σ : eS} {b : Int} (h : uRA σ) (hb : 1 ≤ b ∧ b ≤ 999999) : MtI shA M_Tp_areCells [vr 10, vi b] σ (fun σ' z => σ' = σ ∧ ((z = 0 ∧ ¬ cOk (σ 12) (σ 13) b (σ 10 7)) ∨ (z = 1 ∧ cOk (σ 12) (σ 13) b (σ 10 7)))) := by
  refine Mt.of okM_Tp_areCells (Nat.le_of_ble_eq_true rfl) (fun hk hg => ?_)
  obtain ⟨h1, h2, hu⟩ := h
  refine ok_iconst 0 rfl rfl (by decide) (ok_ist2 1 rfl rfl rfl ?_)
  refine lpO (fun (i : Int) => [some (vr 10), some (vi b), some (vi i), none, none]) (fun _ => σ) (fun i => 0 ≤ i ∧ i ≤ σ 10 7 ∧ ∀ i', 0 ≤ i' → i' < i → ∀ j, 0 ≤ j → j < σ 10 7 → σ 12 (i' * 8 + j) * (b / σ 13 (i' * 8 + j)) ≤ 99999999) (fun i => (8 - i).toNat) ?_ 0 ⟨by omega, by omega, fun i' a c => by omega⟩
  rintro i ⟨i1, i2, hv⟩ ih
  refine ok_iload_n 2 rfl rfl rfl (ok_aload_n 3 rfl rfl rfl (ok_getI 4 rfl rfl fl_X10_34 rfl rfl (Or.inl rfl) (ok_icmp_ge 5 68 rfl rfl rfl (fun h7 => ?_) (fun h7 => ?_))))
  · refine ok_iconst 40 rfl rfl (by decide) (ok_zret 41 rfl rfl rfl (by first | omega | (simp [up_if]; omega) | (simp [up_if] at *; omega)) ?_)
    exact ⟨_, rfl, rfl, Or.inr ⟨rfl, fun i' j a c d e => hv i' a (by omega) j d e⟩⟩
  · refine ok_iconst 6 rfl rfl (by decide) (ok_ist3 7 rfl rfl rfl ?_)
    refine lpO (fun (j : Int) => [some (vr 10), some (vi b), some (vi i), some (vi j), none]) (fun _ => σ) (fun j => 0 ≤ j ∧ j ≤ σ 10 7 ∧ ∀ j', 0 ≤ j' → j' < j → σ 12 (i * 8 + j') * (b / σ 13 (i * 8 + j')) ≤ 99999999) (fun j => (8 - j).toNat) ?_ 0 ⟨by omega, by omega, fun j' a c => by omega⟩
    rintro j ⟨j1, j2, hw⟩ ih2
    refine ok_iload_n 8 rfl rfl rfl (ok_aload_n 9 rfl rfl rfl (ok_getI 10 rfl rfl fl_X10_34 rfl rfl (Or.inl rfl) (ok_icmp_ge 11 62 rfl rfl rfl (fun h17 => ?_) (fun h17 => ?_))))
    · refine ok_inc2 38 rfl rfl rfl (by first | omega | (simp [up_if]; omega) | (simp [up_if] at *; omega)) (ok_goto 39 2 rfl rfl rfl ?_)
      exact ok_fg [some (vr 10), some (vi b), some (vi (i + 1)), none, none] ⟨rfl, rfl, rfl, trivial⟩ (ih (i + 1) ⟨by omega, by omega, lt_ext hv (fun j' a c => hw j' a (by omega))⟩ (by omega))
    · obtain ⟨u1, u2, u3, u4⟩ := hu i j i1 (by omega) j1 (by omega)
      have d := div_bd (u := b) (g := σ 13 (i * 8 + j)) (B := 999999) ⟨by omega, by omega⟩ u1
      have m := mul_bd (a := σ 12 (i * 8 + j)) (b := b / σ 13 (i * 8 + j)) (A := 999999) (B := 999999) ⟨u3, u4⟩ d
      refine ok_iload_n 12 rfl rfl rfl (ok_bipush 13 rfl rfl (by decide) (by decide) (ok_imul 14 rfl rfl (by first | omega | (simp [up_if]; omega) | (simp [up_if] at *; omega)) (ok_iload_n 15 rfl rfl rfl (ok_iadd 16 rfl rfl (by first | omega | (simp [up_if]; omega) | (simp [up_if] at *; omega)) (ok_ist4 17 rfl rfl rfl (ok_aload_n 18 rfl rfl rfl (ok_getR 19 rfl rfl fl_X10_15 rfl rfl (ok_iload 20 rfl rfl rfl (ok_iald 21 rfl rfl rfl (by first | omega | (simp [up_if]; omega) | (simp [up_if] at *; omega)) (ok_i2l 22 rfl rfl (ok_iload_n 23 rfl rfl rfl (ok_aload_n 24 rfl rfl rfl (ok_getR 25 rfl rfl fl_X10_18 rfl rfl (ok_iload 26 rfl rfl rfl (ok_iald 27 rfl rfl rfl (by first | omega | (simp [up_if]; omega) | (simp [up_if] at *; omega)) (ok_idiv 28 rfl rfl (by first | omega | (simp [up_if]; omega) | (simp [up_if] at *; omega)) (by first | omega | (simp [up_if]; omega) | (simp [up_if] at *; omega)) (ok_i2l 29 rfl rfl (ok_lmul 30 rfl rfl (by first | omega | (simp [up_if]; omega) | (simp [up_if] at *; omega)) (ok_ldc2 31 (99999999) rfl rfl kc_X10_119 (by decide) (ok_lcmp_le 32 33 56 rfl rfl rfl rfl rfl (fun h50 => ?_) (fun h50 => ?_)))))))))))))))))))))
      · refine ok_inc3 36 rfl rfl rfl (by first | omega | (simp [up_if]; omega) | (simp [up_if] at *; omega)) (ok_goto 37 12 rfl rfl rfl ?_)
        exact ok_fg [some (vr 10), some (vi b), some (vi i), some (vi (j + 1)), none] ⟨rfl, rfl, rfl, rfl, trivial⟩ (ih2 (j + 1) ⟨by omega, by omega, lt_ext hw (by omega)⟩ (by omega))
      · refine ok_iconst 34 rfl rfl (by decide) (ok_zret 35 rfl rfl rfl (by first | omega | (simp [up_if]; omega) | (simp [up_if] at *; omega)) ?_)
        exact ⟨_, rfl, rfl, Or.inl ⟨rfl, fun q => by have := q i j i1 (by omega) j1 (by omega); omega⟩⟩
end
section
abbrev cbA (σ : eS) : Int := cbC (σ 13) (σ 10 7).toNat (σ 10 7).toNat
def FI (t : Nat) (σ σ' : eS) : Prop := (σ 10 4 ≠ 0 ∧ σ' = σ) ∨ (σ 10 4 = 0 ∧ (cbA σ = -1 ∨ ¬ cOk (σ 12) (σ 13) (cbA σ) (σ 10 7)) ∧ σ' = up (up σ 10 4 6) 10 5 (σ 10 3)) ∨ (σ 10 4 = 0 ∧ 1 ≤ cbA σ ∧ cbA σ ≤ 999999 ∧ cOk (σ 12) (σ 13) (cbA σ) (σ 10 7) ∧ (∀ k, σ' 10 k = σ 10 k) ∧ σ' t 1 = σ 10 7 ∧ σ' t 2 = cbA σ ∧ (σ' t 4 = 0 ∧ σ' t 6 = 0) ∧ ∀ i j, 0 ≤ i → i < σ 10 7 → 0 ≤ j → j < σ 10 7 → σ' (t + 4) (i * 8 + j) = σ 12 (i * 8 + j) * (cbA σ / σ 13 (i * 8 + j)))
theorem t_Tp_fill {σ : eS} {t : Nat} (ht : tA t) (h : RA σ) (hw : σ 10 4 = 0 → σ 10 7 = σ 10 9) (hT : iT σ t) (hM : mT σ t) : MtV shA M_Tp_fill [vr 10, vr t] σ (fun σ' => fr (rgFi t) σ σ' ∧ iT σ' t ∧ mT σ' t ∧ FI t σ σ') := by
  refine Mt.of okM_Tp_fill (Nat.le_of_ble_eq_true rfl) (fun hk hg => ?_)
  obtain ⟨n1, n2, n3, n4, n5, n6, n7, n8, n9, nA⟩ := tA_10 ht
  obtain ⟨p0, p1, p2, p3, p4, p5, p6, p7, p8, p9⟩ := id h
  have bad : σ 10 4 = 0 → (cbA σ = -1 ∨ ¬ cOk (σ 12) (σ 13) (cbA σ) (σ 10 7)) → fr (rgFi t) σ (up (up σ 10 4 6) 10 5 (σ 10 3)) ∧ iT (up (up σ 10 4 6) 10 5 (σ 10 3)) t ∧ mT (up (up σ 10 4 6) 10 5 (σ 10 3)) t ∧ FI t σ (up (up σ 10 4 6) 10 5 (σ 10 3)) := fun q0 q =>
    ⟨fr_up (fr_up fr.rf (by simp [rgFi])) (by simp [rgFi]), (iT_cg hT (by rw [up_ne _ _ _ _ n1, up_ne _ _ _ _ n1]) (by rw [up_ne _ _ _ _ n1, up_ne _ _ _ _ n1]) (fun k => by rw [up_ne _ _ _ _ n2, up_ne _ _ _ _ n2])).1, mT_cg hM (by rw [up_ne _ _ _ _ n1, up_ne _ _ _ _ n1]) (by rw [up_ne _ _ _ _ n1, up_ne _ _ _ _ n1]) (fun k => by rw [up_ne _ _ _ _ n2, up_ne _ _ _ _ n2]), Or.inr (Or.inl ⟨q0, q, rfl⟩)⟩
  refine ok_aload_n 0 rfl rfl rfl (ok_getI 1 rfl rfl fl_X10_25 rfl rfl (Or.inl rfl) (ok_if_eq 2 8 rfl rfl rfl (fun h4 => ?_) (fun h4 => ?_)))
  · have hr : uRA σ := ⟨p1, p2, fun i j a b c d => p7 i j a b c (by have := hw (by omega); omega)⟩
    refine ok_aload_n 4 rfl rfl rfl (ok_callVI (M' := M_Tp_commonBelow) (as := []) 5 rfl rfl ml_X10_101 (t_Tp_commonBelow hr) rfl rfl (Nat.le_of_ble_eq_true rfl) ⟨Nat.le_of_ble_eq_true rfl, Nat.le_of_ble_eq_true rfl⟩ rfl (Nat.le_of_ble_eq_true rfl) (fun σ' b hb => ?_))
    obtain ⟨hs_, hb⟩ := hb
    rw [hs_]; clear hs_ σ'
    refine ok_ist2 6 rfl rfl rfl (ok_iload_n 7 rfl rfl rfl (ok_iconst 8 rfl rfl (by decide) (ok_icmp_eq 9 26 rfl rfl rfl (fun h15 => ?_) (fun h15 => ?_))))
    · refine ok_aload_n 14 rfl rfl rfl (ok_bipush 15 rfl rfl (by decide) (by decide) (ok_aload_n 16 rfl rfl rfl (ok_getI 17 rfl rfl fl_X10_21 rfl rfl (Or.inl rfl) (ok_callVV (M' := M_Tp_fail) (as := [_, _]) 18 rfl rfl ml_X10_75 (s_Tp_fail) rfl rfl (Nat.le_of_ble_eq_true rfl) ⟨Nat.le_of_ble_eq_true rfl, Nat.le_of_ble_eq_true rfl⟩ rfl (Nat.le_of_ble_eq_true rfl) (fun σ' hz => ?_)))))
      rw [hz]
      clear hz σ'
      refine ok_vret 19 rfl rfl rfl ?_
      exact ⟨rfl, bad (by omega) (Or.inl (by have hbb : b = cbA σ := hb.1; omega))⟩
    · have hb1 : 1 ≤ b ∧ b ≤ 999999 := by omega
      refine ok_aload_n 10 rfl rfl rfl (ok_iload_n 11 rfl rfl rfl (ok_callVI (M' := M_Tp_areCells) (as := [_]) 12 rfl rfl ml_X10_104 (t_Tp_areCells hr hb1) rfl rfl (Nat.le_of_ble_eq_true rfl) ⟨Nat.le_of_ble_eq_true rfl, Nat.le_of_ble_eq_true rfl⟩ rfl (Nat.le_of_ble_eq_true rfl) (fun σ' z hz => ?_)))
      obtain ⟨hs_, hz⟩ := hz
      rw [hs_]; clear hs_ σ'
      refine ok_if_ne 13 37 rfl rfl rfl (fun h23 => ?_) (fun h23 => ?_)
      · refine ok_iconst 20 rfl rfl (by decide) (ok_ist3 21 rfl rfl rfl ?_)
        have hm : cOk (σ 12) (σ 13) b (σ 10 7) := by
          rcases hz with q | q
          · exact absurd q.1 h23
          · exact q.2
        have eb : b = cbA σ := hb.1
        clear hz hb bad
        refine lpO2 (fun (i : Int) (_ : eS) => [some (vr 10), some (vr t), some (vi b), some (vi i), none, none]) (fun _ ρ => ρ) (fun i ρ => 0 ≤ i ∧ i ≤ σ 10 7 ∧ fr (fun c _ => c = t + 4) σ ρ ∧ (∀ k, 0 ≤ k → k < 64 → 0 ≤ ρ (t + 4) k ∧ ρ (t + 4) k ≤ 99999999) ∧ ∀ x y, 0 ≤ x → x < i → 0 ≤ y → y < σ 10 7 → ρ (t + 4) (x * 8 + y) = σ 12 (x * 8 + y) * (b / σ 13 (x * 8 + y))) (fun i _ => (8 - i).toNat) ?_ 0 σ ⟨by omega, by omega, fr.rf, hT.2.2.2, fun x y a b => by omega⟩
        rintro i ρ ⟨i1, i2, f, hc, hx⟩ ih
        have e7 : ρ 10 7 = σ 10 7 := f 10 7 (by omega)
        refine ok_iload_n 22 rfl rfl rfl (ok_aload_n 23 rfl rfl rfl (ok_getI 24 rfl rfl fl_X10_34 rfl rfl (Or.inl rfl) (ok_icmp_ge 25 104 rfl rfl rfl (fun h44 => ?_) (fun h44 => ?_))))
        · refine ok_aload_n 57 rfl rfl rfl (ok_aload_n 58 rfl rfl rfl (ok_getI 59 rfl rfl fl_X10_34 rfl rfl (Or.inl rfl) (ok_iload_n 60 rfl rfl rfl (ok_callVV (M' := M_Ta_settle) (as := [_, _]) 61 rfl rfl ml_X10_110 (s_Ta_settle ht ⟨by omega, by omega⟩ (by omega) hc) (sT ht) rfl (Nat.le_of_ble_eq_true rfl) ⟨Nat.le_of_ble_eq_true rfl, Nat.le_of_ble_eq_true rfl⟩ rfl (Nat.le_of_ble_eq_true rfl) (fun τ hz => ?_)))))
          refine ok_vret 62 rfl rfl rfl ?_
          refine ⟨rfl, (f.mono (fun c k q => by simp only [rgFi]; omega)).tr (hz.1.mono (fun c k q => by simp only [rgT1, rgFi] at q ⊢; omega)), hz.2.1, hz.2.2.1, Or.inr (Or.inr ⟨by omega, by omega, by omega, by rw [← eb]; exact hm, fun k => ?_, by rw [hz.2.2.2.1, e7], by rw [hz.2.2.2.2.1]; omega, ⟨hz.2.2.2.2.2.1, hz.2.2.2.2.2.2⟩, fun x y xa xb ya yb => ?_⟩)⟩
          · rw [hz.1 10 k (by simp only [rgT1]; omega), f 10 k (by omega)]
          · rw [hz.1 (t + 4) _ (by simp only [rgT1]; omega), hx x y xa (by omega) ya yb, eb]
        · refine ok_iconst 26 rfl rfl (by decide) (ok_ist4 27 rfl rfl rfl ?_)
          refine lpO2 (fun (j : Int) (_ : eS) => [some (vr 10), some (vr t), some (vi b), some (vi i), some (vi j), none]) (fun _ ρ => ρ) (fun j ρ => 0 ≤ j ∧ j ≤ σ 10 7 ∧ fr (fun c _ => c = t + 4) σ ρ ∧ (∀ k, 0 ≤ k → k < 64 → 0 ≤ ρ (t + 4) k ∧ ρ (t + 4) k ≤ 99999999) ∧ (∀ x y, 0 ≤ x → x < i → 0 ≤ y → y < σ 10 7 → ρ (t + 4) (x * 8 + y) = σ 12 (x * 8 + y) * (b / σ 13 (x * 8 + y))) ∧ ∀ y, 0 ≤ y → y < j → ρ (t + 4) (i * 8 + y) = σ 12 (i * 8 + y) * (b / σ 13 (i * 8 + y))) (fun j _ => (8 - j).toNat) ?_ 0 ρ ⟨by omega, by omega, f, hc, hx, fun y a b => by omega⟩
          have il : i < σ 10 7 := by omega
          clear f hc hx e7 h44 ρ
          rintro j ρ ⟨j1, j2, f, hc, hx, hy⟩ ih2
          have e7 : ρ 10 7 = σ 10 7 := f 10 7 (by omega)
          have e12 : ∀ k, ρ 12 k = σ 12 k := fun k => f 12 k (by omega)
          have e13 : ∀ k, ρ 13 k = σ 13 k := fun k => f 13 k (by omega)
          refine ok_iload 28 rfl rfl rfl (ok_aload_n 29 rfl rfl rfl (ok_getI 30 rfl rfl fl_X10_34 rfl rfl (Or.inl rfl) (ok_icmp_ge 31 98 rfl rfl rfl (fun h56 => ?_) (fun h56 => ?_))))
          · refine ok_inc3 55 rfl rfl rfl (by first | omega | (simp [up_if]; omega) | (simp [up_if] at *; omega)) (ok_goto 56 39 rfl rfl rfl ?_)
            refine ok_fg [some (vr 10), some (vr t), some (vi b), some (vi (i + 1)), none, none] ⟨rfl, rfl, rfl, rfl, trivial⟩ (ih (i + 1) ρ ⟨by omega, by omega, f, hc, fun x y xa xb ya yb => ?_⟩ (by omega))
            rcases (by omega : x < i ∨ x = i) with q | q
            · exact hx x y xa q ya yb
            · rw [q]; exact hy y ya (by omega)
          · obtain ⟨u1, u2, u3, u4⟩ := hr.2.2 i j i1 il j1 (by omega)
            have d := div_bd (u := b) (g := σ 13 (i * 8 + j)) (B := 999999) ⟨by omega, by omega⟩ u1
            have m0 := Int.mul_nonneg u3 d.1
            have m1 := hm i j i1 il j1 (by omega)
            rw [← e12, ← e13] at m0 m1
            rw [← e13] at u1 u2 d
            refine ok_iload_n 32 rfl rfl rfl (ok_bipush 33 rfl rfl (by decide) (by decide) (ok_imul 34 rfl rfl (by first | omega | (simp [up_if]; omega) | (simp [up_if] at *; omega)) (ok_iload 35 rfl rfl rfl (ok_iadd 36 rfl rfl (by first | omega | (simp [up_if]; omega) | (simp [up_if] at *; omega)) (ok_ist5 37 rfl rfl rfl (ok_aload_n 38 rfl rfl rfl (ok_getR 39 rfl rfl fl_X10_107 (sT ht) rfl (ok_iload 40 rfl rfl rfl (ok_aload_n 41 rfl rfl rfl (ok_getR 42 rfl rfl fl_X10_15 rfl rfl (ok_iload 43 rfl rfl rfl (ok_iald 44 rfl rfl rfl (by first | omega | (simp [up_if]; omega) | (simp [up_if] at *; omega)) (ok_iload_n 45 rfl rfl rfl (ok_aload_n 46 rfl rfl rfl (ok_getR 47 rfl rfl fl_X10_18 rfl rfl (ok_iload 48 rfl rfl rfl (ok_iald 49 rfl rfl rfl (by first | omega | (simp [up_if]; omega) | (simp [up_if] at *; omega)) (ok_idiv 50 rfl rfl (by first | omega | (simp [up_if]; omega) | (simp [up_if] at *; omega)) (by first | omega | (simp [up_if]; omega) | (simp [up_if] at *; omega)) (ok_imul 51 rfl rfl (by first | omega | (simp [up_if]; omega) | (simp [up_if] at *; omega)) (ok_iast 52 rfl rfl (sC ht) (by first | omega | (simp [up_if]; omega) | (simp [up_if] at *; omega)) (ok_inc4 53 rfl rfl rfl (by first | omega | (simp [up_if]; omega) | (simp [up_if] at *; omega)) (ok_goto 54 50 rfl rfl rfl ?_))))))))))))))))))))))
            refine ok_fg [some (vr 10), some (vr t), some (vi b), some (vi i), some (vi (j + 1)), none] ⟨rfl, rfl, rfl, rfl, rfl, trivial⟩ (ih2 (j + 1) _ ⟨by omega, by omega, fr_up f rfl, fun k a c => ?_, fun x y xa xb ya yb => ?_, fun y ya yb => ?_⟩ (by omega))
            · rw [up_if]
              by_cases q : k = i * 8 + j
              · rw [if_pos ⟨rfl, q⟩]; exact ⟨m0, m1⟩
              · rw [if_neg (fun y => q y.2)]; exact hc k a c
            · rw [up_nk _ _ _ _ (by omega)]; exact hx x y xa xb ya yb
            · rcases (by omega : y < j ∨ y = j) with q | q
              · rw [up_nk _ _ _ _ (by omega)]; exact hy y ya q
              · rw [q, up_same, e12, e13]
      · refine ok_aload_n 14 rfl rfl rfl (ok_bipush 15 rfl rfl (by decide) (by decide) (ok_aload_n 16 rfl rfl rfl (ok_getI 17 rfl rfl fl_X10_21 rfl rfl (Or.inl rfl) (ok_callVV (M' := M_Tp_fail) (as := [_, _]) 18 rfl rfl ml_X10_75 (s_Tp_fail) rfl rfl (Nat.le_of_ble_eq_true rfl) ⟨Nat.le_of_ble_eq_true rfl, Nat.le_of_ble_eq_true rfl⟩ rfl (Nat.le_of_ble_eq_true rfl) (fun σ' hz => ?_)))))
        rw [hz]
        clear hz σ'
        refine ok_vret 19 rfl rfl rfl ?_
        refine ⟨rfl, bad (by omega) (Or.inr (fun q => ?_))⟩
        have e := hb.1
        rcases hz with w | w
        · exact w.2 (by rw [e]; exact q)
        · omega
  · refine ok_vret 3 rfl rfl rfl ?_
    exact ⟨rfl, fr.rf, hT, hM, Or.inl ⟨by omega, rfl⟩⟩
end
section
def uRAf (ρ : eS) : Prop := ρ 10 4 = 0 → uRA ρ
/-- what `table` leaves of the tape's text, on the class's side: the whole reading, then the filling -/
def TI (t : Nat) (σ σ' : eS) : Prop := ∃ ρ : eS, ρ 11 = σ 11 ∧ ρ 10 3 = σ 10 3 ∧ (ρ 10 4 = 0 → PR (σ 11) (σ 10 3) 0 0 0 0 (σ 12) (σ 13) = (0, -1, ρ 10 7, ρ 10 9, ρ 12, ρ 13) ∧ ρ 10 7 = ρ 10 9 ∧ ρ 10 5 = -1) ∧ (ρ 10 4 ≠ 0 → (PR (σ 11) (σ 10 3) 0 0 0 0 (σ 12) (σ 13)).1 = ρ 10 4 ∧ (PR (σ 11) (σ 10 3) 0 0 0 0 (σ 12) (σ 13)).2.1 = ρ 10 5) ∧ (∀ k, ρ t k = σ t k) ∧ (∀ k, ρ (t + 4) k = σ (t + 4) k) ∧ uRAf ρ ∧ ∃ υ : eS, FI t ρ υ ∧ σ' = up υ 10 3 0
theorem t_Tp_readInto {σ : eS} {t : Nat} (ht : tA t) (h : tL σ) (hT : iT σ t) (hM : mT σ t) : MtI shA M_Tp_readInto [vr 10, vr t] σ (fun σ' z => fr (rgRI t) σ σ' ∧ iT σ' t ∧ mT σ' t ∧ σ' 10 3 = 0 ∧ TI t σ σ' ∧ ((σ' 10 4 = 0 ∧ z = σ' t 1) ∨ (σ' 10 4 ≠ 0 ∧ z = -1))) := by
  refine Mt.of okM_Tp_readInto (Nat.le_of_ble_eq_true rfl) (fun hk hg => ?_)
  obtain ⟨n1, n2, n3, n4, n5, n6, n7, n8, n9, nA⟩ := tA_10 ht
  have h1 := h.1
  have h2 := h.2
  obtain ⟨τ, eτ⟩ : ∃ τ, τ = up (up (up (up (up (up σ 10 4 0) 10 5 (-1)) 10 6 0) 10 7 0) 10 8 0) 10 9 0 := ⟨_, rfl⟩
  have f : fr rgJ σ τ := by rw [eτ]; exact fr_up (fr_up (fr_up (fr_up (fr_up (fr_up fr.rf (by simp [rgJ])) (by simp [rgJ])) (by simp [rgJ])) (by simp [rgJ])) (by simp [rgJ])) (by simp [rgJ])
  have e4 : τ 10 4 = 0 := by rw [eτ]; simp [up_if]
  have e5 : τ 10 5 = -1 := by rw [eτ]; simp [up_if]
  have e6 : τ 10 6 = 0 := by rw [eτ]; simp [up_if]
  have e7 : τ 10 7 = 0 := by rw [eτ]; simp [up_if]
  have e8 : τ 10 8 = 0 := by rw [eτ]; simp [up_if]
  have e9 : τ 10 9 = 0 := by rw [eτ]; simp [up_if]
  have e3 : τ 10 3 = σ 10 3 := f 10 3 (by simp [rgJ])
  have e11 : τ 11 = σ 11 := by funext j; exact f 11 j (by simp [rgJ])
  have e12 : τ 12 = σ 12 := by rw [eτ]; simp only [up_fn _ _ _ (show (12 : Nat) ≠ 10 by decide)]
  have e13 : τ 13 = σ 13 := by rw [eτ]; simp only [up_fn _ _ _ (show (13 : Nat) ≠ 10 by decide)]
  have eP : PA τ = PR (σ 11) (σ 10 3) 0 0 0 0 (σ 12) (σ 13) := by unfold PA; rw [e11, e3, e6, e7, e8, e9, e12, e13]
  have hR : RA τ := ⟨⟨by omega, by omega, by omega, by omega⟩, by omega, by omega, by omega, by omega, by omega, by omega, fun i j a b => by omega, fun j a b c => by omega, by omega⟩
  unfold TI
  simp only [← eP]
  refine ok_aload_n 0 rfl rfl rfl (ok_iconst 1 rfl rfl (by decide) (ok_putI 2 rfl rfl fl_X10_25 rfl rfl rfl rfl (ok_aload_n 3 rfl rfl rfl (ok_iconst 4 rfl rfl (by decide) (ok_putI 5 rfl rfl fl_X10_28 rfl rfl rfl rfl (ok_aload_n 6 rfl rfl rfl (ok_iconst 7 rfl rfl (by decide) (ok_putI 8 rfl rfl fl_X10_31 rfl rfl rfl rfl (ok_aload_n 9 rfl rfl rfl (ok_iconst 10 rfl rfl (by decide) (ok_putI 11 rfl rfl fl_X10_34 rfl rfl rfl rfl (ok_aload_n 12 rfl rfl rfl (ok_iconst 13 rfl rfl (by decide) (ok_putI 14 rfl rfl fl_X10_37 rfl rfl rfl rfl (ok_aload_n 15 rfl rfl rfl (ok_iconst 16 rfl rfl (by decide) (ok_putI 17 rfl rfl fl_X10_40 rfl rfl rfl rfl (ok_iconst 18 rfl rfl (by decide) (ok_ist2 19 rfl rfl rfl ?_)))))))))))))))))))
  rw [← eτ]
  refine lpO2 (fun (k : Int) (_ : eS) => [some (vr 10), some (vr t), some (vi k)]) (fun _ ρ => ρ) (fun k ρ => 0 ≤ k ∧ k ≤ 600 ∧ fr rgJ σ ρ ∧ RA ρ ∧ ((ρ 10 4 = 0 ∧ PA ρ = PA τ ∧ k ≤ ρ 10 6 ∧ ρ 10 5 = -1) ∨ (ρ 10 4 ≠ 0 ∧ (PA τ).1 = ρ 10 4 ∧ (PA τ).2.1 = ρ 10 5))) (fun k _ => (600 - k).toNat) ?_ 0 τ ⟨by omega, by omega, f, hR, Or.inl ⟨e4, rfl, by omega, e5⟩⟩
  clear e3 e9 e8 e7 e6 hR f e4 e5 e11 e12 e13 eP eτ
  rintro k ρ ⟨k1, k2, f, hR, hs⟩ ih
  have r3 : ρ 10 3 = σ 10 3 := f 10 3 (by simp [rgJ])
  obtain ⟨pa, pb, pc_, pd⟩ := id hR.1
  have tail : (ρ 10 4 = 0 → ρ 10 6 = ρ 10 3) → Ok shA M_Tp_readInto 67 [some (vr 10), some (vr t), some (vi k)] [] ρ (fun σ' v => ∃ z, v = some (vi z) ∧ fr (rgRI t) σ σ' ∧ iT σ' t ∧ mT σ' t ∧ σ' 10 3 = 0 ∧ (∃ ρ : eS, ρ 11 = σ 11 ∧ ρ 10 3 = σ 10 3 ∧ (ρ 10 4 = 0 → PA τ = (0, -1, ρ 10 7, ρ 10 9, ρ 12, ρ 13) ∧ ρ 10 7 = ρ 10 9 ∧ ρ 10 5 = -1) ∧ (ρ 10 4 ≠ 0 → (PA τ).1 = ρ 10 4 ∧ (PA τ).2.1 = ρ 10 5) ∧ (∀ k, ρ t k = σ t k) ∧ (∀ k, ρ (t + 4) k = σ (t + 4) k) ∧ uRAf ρ ∧ ∃ υ : eS, FI t ρ υ ∧ σ' = up υ 10 3 0) ∧ ((σ' 10 4 = 0 ∧ z = σ' t 1) ∨ (σ' 10 4 ≠ 0 ∧ z = -1))) := by
    intro hend
    clear ih
    refine ok_aload_n 35 rfl rfl rfl (ok_callVV (M' := M_Tp_checkEnd) (as := []) 36 rfl rfl ml_X10_46 (t_Tp_checkEnd hR (by by_cases q : ρ 10 4 = 0; exact Or.inl ⟨q, hend q⟩; exact Or.inr q)) rfl rfl (Nat.le_of_ble_eq_true rfl) ⟨Nat.le_of_ble_eq_true rfl, Nat.le_of_ble_eq_true rfl⟩ rfl (Nat.le_of_ble_eq_true rfl) (fun ρ1 z1 => ?_))
    have f1 : fr rgJ σ ρ1 := f.tr z1.1.1
    have x1 : ∀ k, ρ1 (t + 4) k = σ (t + 4) k := fun k => f1 _ _ (by simp only [rgJ]; omega)
    have x2 : ∀ k, ρ1 t k = σ t k := fun k => f1 _ _ (by simp only [rgJ]; omega)
    have y11 : ρ1 11 = σ 11 := by funext j; exact f1 11 j (by simp [rgJ])
    have y3 : ρ1 10 3 = σ 10 3 := f1 10 3 (by simp [rgJ])
    have ok0 : ρ1 10 4 = 0 → PA τ = (0, -1, ρ1 10 7, ρ1 10 9, ρ1 12, ρ1 13) ∧ ρ1 10 7 = ρ1 10 9 ∧ ρ1 10 5 = -1 := fun q => by
      rcases z1.2.2 with ⟨w1, w2⟩ | ⟨w1, w2, w3, w4⟩
      · rw [w2] at q; exact absurd q w1
      · rcases hs with ⟨s1, s2, s3, s4⟩ | s1
        · have e := w3 q
          have sq := z1.2.1 q
          rw [e] at sq ⊢
          refine ⟨?_, sq, s4⟩
          rw [← s2]
          have hq : sk (ρ 11) (ρ 10 3) (ρ 10 6) = ρ 10 6 := sk_0 (fun z => by have := z.1; have := hend s1; omega)
          have hP := PR_end (r := ρ 10 7) (k := ρ 10 8) (w := ρ 10 9) (ab := ρ 12) (un := ρ 13) hq (by have := hend s1; omega)
          unfold PA at w2 ⊢
          rw [hP] at w2 ⊢
          by_cases c1 : 0 < ρ 10 8
          · rw [if_pos c1, q] at w2; exact absurd (show (1 : Int) = 0 from w2) (by decide)
          · rw [if_neg c1, if_neg (by omega)]
        · exact absurd w1 s1.1
    have ok1 : ρ1 10 4 ≠ 0 → (PA τ).1 = ρ1 10 4 ∧ (PA τ).2.1 = ρ1 10 5 := fun q => by
      rcases z1.2.2 with ⟨w1, w2⟩ | ⟨w1, w2, w3, w4⟩
      · rcases hs with s1 | s1
        · exact absurd s1.1 w1
        · rw [w2]; exact s1.2
      · rcases hs with ⟨s1, s2, s3, s4⟩ | s1
        · rw [← s2]; exact ⟨w2, w4 q⟩
        · exact absurd w1 s1.1
    have ur : uRAf ρ1 := fun q => by
      obtain ⟨-, u1, u2, -, -, -, -, u7, -, -⟩ := z1.1.2
      have := z1.2.1 q
      exact ⟨u1, u2, fun i j a b c d => u7 i j a b c (by omega)⟩
    refine ok_aload_n 37 rfl rfl rfl (ok_aload_n 38 rfl rfl rfl (ok_callVV (M' := M_Tp_fill) (as := [_]) 39 rfl rfl ml_X10_49 (t_Tp_fill ht z1.1.2 z1.2.1 (iT_cg hT (x2 1) (x2 2) x1).1 (mT_cg hM (x2 1) (x2 3) x1)) rfl rfl (Nat.le_of_ble_eq_true rfl) ⟨Nat.le_of_ble_eq_true rfl, Nat.le_of_ble_eq_true rfl⟩ rfl (Nat.le_of_ble_eq_true rfl) (fun ρ2 z2 => ?_)))
    refine ok_aload_n 40 rfl rfl rfl (ok_iconst 41 rfl rfl (by decide) (ok_putI 42 rfl rfl fl_X10_21 rfl rfl rfl rfl (ok_aload_n 43 rfl rfl rfl (ok_getI 44 rfl rfl fl_X10_25 rfl rfl (Or.inl rfl) (ok_if_ne 45 95 rfl rfl rfl (fun h85 => ?_) (fun h85 => ?_))))))
    · refine ok_iconst 49 rfl rfl (by decide) (ok_iret 50 rfl rfl rfl ?_)
      refine ⟨_, rfl, fr_up ((f1.mono (fun c k q => by simp only [rgJ, rgRI] at q ⊢; omega)).tr (z2.1.mono (fun c k q => by simp only [rgFi, rgRI] at q ⊢; omega))) (by simp [rgRI]), (iT_cg z2.2.1 (up_ne _ _ _ _ n1) (up_ne _ _ _ _ n1) (fun k => up_ne _ _ _ _ n2)).1, mT_cg z2.2.2.1 (up_ne _ _ _ _ n1) (up_ne _ _ _ _ n1) (fun k => up_ne _ _ _ _ n2), up_same _ _ _ _, ⟨ρ1, y11, y3, ok0, ok1, x2, x1, ur, ρ2, z2.2.2.2, rfl⟩, ?_⟩
      rw [up_nk _ _ _ _ (by decide)] at *
      first
        | exact Or.inr ⟨by omega, rfl⟩
        | exact Or.inl ⟨by omega, rfl⟩
    · refine ok_aload_n 46 rfl rfl rfl (ok_getI 47 rfl rfl fl_X10_53 (sT ht) rfl (Or.inl rfl) (ok_goto 48 96 rfl rfl rfl (ok_iret 50 rfl rfl rfl ?_)))
      refine ⟨_, rfl, fr_up ((f1.mono (fun c k q => by simp only [rgJ, rgRI] at q ⊢; omega)).tr (z2.1.mono (fun c k q => by simp only [rgFi, rgRI] at q ⊢; omega))) (by simp [rgRI]), (iT_cg z2.2.1 (up_ne _ _ _ _ n1) (up_ne _ _ _ _ n1) (fun k => up_ne _ _ _ _ n2)).1, mT_cg z2.2.2.1 (up_ne _ _ _ _ n1) (up_ne _ _ _ _ n1) (fun k => up_ne _ _ _ _ n2), up_same _ _ _ _, ⟨ρ1, y11, y3, ok0, ok1, x2, x1, ur, ρ2, z2.2.2.2, rfl⟩, ?_⟩
      rw [up_nk _ _ _ _ (by decide)] at *
      first
        | exact Or.inr ⟨by omega, rfl⟩
        | exact Or.inl ⟨by omega, rfl⟩
  refine ok_iload_n 20 rfl rfl rfl (ok_sipush 21 rfl rfl (by decide) (by decide) (ok_icmp_ge 22 67 rfl rfl rfl (fun h36 => ?_) (fun h36 => ?_)))
  · exact tail (by omega)
  · refine ok_aload_n 23 rfl rfl rfl (ok_getI 24 rfl rfl fl_X10_31 rfl rfl (Or.inl rfl) (ok_aload_n 25 rfl rfl rfl (ok_getI 26 rfl rfl fl_X10_21 rfl rfl (Or.inl rfl) (ok_icmp_ge 27 67 rfl rfl rfl (fun h47 => ?_) (fun h47 => ?_)))))
    · exact tail (by omega)
    · refine ok_aload_n 28 rfl rfl rfl (ok_getI 29 rfl rfl fl_X10_25 rfl rfl (Or.inl rfl) (ok_if_ne 30 67 rfl rfl rfl (fun h54 => ?_) (fun h54 => ?_)))
      · exact tail (by omega)
      · refine ok_aload_n 31 rfl rfl rfl (ok_callVV (M' := M_Tp_readPiece) (as := []) 32 rfl rfl ml_X10_43 (t_Tp_readPiece hR (by omega) (by omega)) rfl rfl (Nat.le_of_ble_eq_true rfl) ⟨Nat.le_of_ble_eq_true rfl, Nat.le_of_ble_eq_true rfl⟩ rfl (Nat.le_of_ble_eq_true rfl) (fun ρ1 z1 => ?_))
        refine ok_inc2 33 rfl rfl rfl (by first | omega | (simp [up_if]; omega) | (simp [up_if] at *; omega)) (ok_goto 34 32 rfl rfl rfl ?_)
        refine ih (k + 1) ρ1 ⟨by omega, by omega, f.tr z1.1.1, z1.1.2, ?_⟩ (by omega)
        rcases hs with ⟨s1, s2, s3, s4⟩ | s1
        · rcases z1.2 with ⟨w1, w2, w3, w4⟩ | ⟨w1, w2, w3⟩
          · exact Or.inl ⟨w1, by rw [w2, s2], by omega, by rw [w4, s4]⟩
          · exact Or.inr ⟨w1, by rw [← s2]; exact w2, by rw [← s2]; exact w3⟩
        · exact absurd (by omega) s1.1
end
section
/-- the next piece, exactly: where it begins; the end, a number, a sign -/
def LX (σ σ' : eS) : Prop := σ' 0 12 = sk (σ 5) (σ 0 6) (σ 0 13) ∧ ((¬ sk (σ 5) (σ 0 6) (σ 0 13) < σ 0 6 ∧ σ' 0 11 = 0 ∧ σ' 0 13 = sk (σ 5) (σ 0 6) (σ 0 13)) ∨ (dgA (σ 5) (σ 0 6) (sk (σ 5) (σ 0 6) (σ 0 13)) ∧ σ' 0 11 = 2 ∧ σ' 0 13 = de (σ 5) (σ 0 6) (sk (σ 5) (σ 0 6) (σ 0 13)) ∧ (de (σ 5) (σ 0 6) (sk (σ 5) (σ 0 6) (σ 0 13)) - sk (σ 5) (σ 0 6) (σ 0 13) ≤ 6 → σ' 0 14 = vaD (σ 5) (sk (σ 5) (σ 0 6) (σ 0 13)) (de (σ 5) (σ 0 6) (sk (σ 5) (σ 0 6) (σ 0 13))))) ∨ (sk (σ 5) (σ 0 6) (σ 0 13) < σ 0 6 ∧ ¬ dgA (σ 5) (σ 0 6) (sk (σ 5) (σ 0 6) (σ 0 13)) ∧ σ' 0 11 = 3 ∧ σ' 0 15 = σ 5 (sk (σ 5) (σ 0 6) (σ 0 13)) ∧ σ' 0 13 = sk (σ 5) (σ 0 6) (σ 0 13) + 1))
theorem t_Mo_next {σ : eS} (h : P0 σ) (hby : ∀ k : Int, 0 ≤ k → k < σ 0 6 → 0 ≤ σ 5 k) : MtV shB M_Mo_next [vr 0] σ (fun σ' => lex σ σ' ∧ LX σ σ') := by
  refine Mt.of okM_Mo_next (Nat.le_of_ble_eq_true rfl) (fun hk hg => ?_)
  obtain ⟨p1, p2, p3⟩ := h
  refine lpO (fun _ : eS => [some (vr 0), none]) (fun τ => τ) (fun τ => fr (fun c k => c = 0 ∧ k = 13) σ τ ∧ σ 0 13 ≤ τ 0 13 ∧ τ 0 13 ≤ σ 0 6 ∧ ∀ j, σ 0 13 ≤ j → j < τ 0 13 → blA (σ 5) (σ 0 6) j) (fun τ => (600 - τ 0 13).toNat) ?_ σ ⟨fr.rf, by omega, by omega, fun j a b => by omega⟩
  rintro τ ⟨f, h1, h2, hbl⟩ ih
  have f6 : τ 0 6 = σ 0 6 := f 0 6 (by omega)
  have f5 : ∀ k, τ 5 k = σ 5 k := fun k => f 5 k (by omega)
  have sq : τ 0 13 < σ 0 6 → seeB τ (τ 0 13) = σ 5 (τ 0 13) := fun q => by unfold seeB; rw [if_pos (by omega), f5]
  have sn : ¬ τ 0 13 < σ 0 6 → seeB τ (τ 0 13) = -1 := fun q => by unfold seeB; rw [if_neg (by omega)]
  refine ok_aload_n 0 rfl rfl rfl (ok_aload_n 1 rfl rfl rfl (ok_getI 2 rfl rfl fl_X12_132 rfl rfl (Or.inl rfl) (ok_callVI (M' := M_Mo_see) (as := [_]) 3 rfl rfl ml_X12_135 (s_Mo_see (by omega) (by omega)) rfl rfl (Nat.le_of_ble_eq_true rfl) ⟨Nat.le_of_ble_eq_true rfl, Nat.le_of_ble_eq_true rfl⟩ rfl (Nat.le_of_ble_eq_true rfl) (fun σ' z hz => ?_))))
  rw [hz.1, hz.2]
  clear hz z σ'
  refine ok_bipush 4 rfl rfl (by decide) (by decide) (ok_icmp_eq 5 26 rfl rfl rfl (fun h10 => ?_) (fun h10 => ?_))
  · have hl : τ 0 13 < τ 0 6 := seeB_lt (by omega)
    refine ok_aload_n 12 rfl rfl rfl (ok_dup 13 rfl rfl rfl (ok_getI 14 rfl rfl fl_X12_132 rfl rfl (Or.inl rfl) (ok_iconst 15 rfl rfl (by decide) (ok_iadd 16 rfl rfl (by first | omega | (simp [up_if]; omega) | (simp [up_if] at *; omega)) (ok_putI 17 rfl rfl fl_X12_132 rfl rfl rfl rfl (ok_goto 18 0 rfl rfl rfl ?_))))))
    refine ih _ ⟨fr_up f ⟨rfl, rfl⟩, by rw [up_same]; omega, by rw [up_same]; omega, fun j a b => ?_⟩ (by rw [up_same]; omega)
    rw [up_same] at b
    rcases (by omega : j < τ 0 13 ∨ j = τ 0 13) with q | q
    · exact hbl j a q
    · rw [q]
      have := sq (by omega)
      exact ⟨by omega, by omega⟩
  · refine ok_aload_n 6 rfl rfl rfl (ok_aload_n 7 rfl rfl rfl (ok_getI 8 rfl rfl fl_X12_132 rfl rfl (Or.inl rfl) (ok_callVI (M' := M_Mo_see) (as := [_]) 9 rfl rfl ml_X12_135 (s_Mo_see (by omega) (by omega)) rfl rfl (Nat.le_of_ble_eq_true rfl) ⟨Nat.le_of_ble_eq_true rfl, Nat.le_of_ble_eq_true rfl⟩ rfl (Nat.le_of_ble_eq_true rfl) (fun σ' z hz => ?_))))
    rw [hz.1, hz.2]
    clear hz z σ'
    refine ok_bipush 10 rfl rfl (by decide) (by decide) (ok_icmp_ne 11 39 rfl rfl rfl (fun h23 => ?_) (fun h23 => ?_))
    · have hsk : sk (σ 5) (σ 0 6) (σ 0 13) = τ 0 13 := sk_un h1 hbl (fun q => by have := sq q.1; have := q.2; omega)
      obtain ⟨τ1, e1⟩ : ∃ x, x = up (up (up τ 0 12 (τ 0 13)) 0 14 0) 0 15 0 := ⟨_, rfl⟩
      have g1 : fr (fun c k => c = 0 ∧ 11 ≤ k ∧ k ≤ 15) σ τ1 := by
        rw [e1]
        exact fr_up (fr_up (fr_up (f.mono (fun c k q => by omega)) (by omega)) (by omega)) (by omega)
      have g12 : τ1 0 12 = τ 0 13 := by rw [e1]; simp [up_if]
      have g13 : τ1 0 13 = τ 0 13 := by rw [e1]; simp [up_if]
      have g14 : τ1 0 14 = 0 := by rw [e1]; simp [up_if]
      have g6 : τ1 0 6 = σ 0 6 := by rw [e1]; simp [up_if, f6]
      refine ok_aload_n 19 rfl rfl rfl (ok_aload_n 20 rfl rfl rfl (ok_getI 21 rfl rfl fl_X12_132 rfl rfl (Or.inl rfl) (ok_putI 22 rfl rfl fl_X12_138 rfl rfl rfl rfl (ok_aload_n 23 rfl rfl rfl (ok_aload_n 24 rfl rfl rfl (ok_getI 25 rfl rfl fl_X12_132 rfl rfl (Or.inl rfl) (ok_callVI (M' := M_Mo_see) (as := [_]) 26 rfl rfl ml_X12_135 (s_Mo_see (by simp [up_if]; omega) (by simp [up_if]; omega)) rfl rfl (Nat.le_of_ble_eq_true rfl) ⟨Nat.le_of_ble_eq_true rfl, Nat.le_of_ble_eq_true rfl⟩ rfl (Nat.le_of_ble_eq_true rfl) (fun σ' z hz => ?_))))))))
      obtain ⟨hs_, hz⟩ := hz
      rw [hs_]; clear hs_ σ'
      refine ok_ist1 27 rfl rfl rfl (ok_aload_n 28 rfl rfl rfl (ok_iconst 29 rfl rfl (by decide) (ok_putI 30 rfl rfl fl_X12_141 rfl rfl rfl rfl (ok_aload_n 31 rfl rfl rfl (ok_iconst 32 rfl rfl (by decide) (ok_putI 33 rfl rfl fl_X12_144 rfl rfl rfl rfl ?_))))))
      rw [← e1]
      refine ok_iload_n 34 rfl rfl rfl (ok_iconst 35 rfl rfl (by decide) (ok_icmp_ne 36 79 rfl rfl rfl (fun h68 => ?_) (fun h68 => ?_)))
      · refine ok_iload_n 41 rfl rfl rfl (ok_i2l 42 rfl rfl (ok_ldc2 43 (48) rfl rfl kc_X12_150 (by decide) (ok_ldc2 44 (57) rfl rfl kc_X12_152 (by decide) (ok_callSI (M' := M_Mo_isIn) (as := [_, _, _]) 45 rfl rfl ml_X12_99 (s_Mo_isIn) ⟨Nat.le_of_ble_eq_true rfl, Nat.le_of_ble_eq_true rfl⟩ rfl (Nat.le_of_ble_eq_true rfl) (fun σ' w hw => ?_)))))
        obtain ⟨hs_, hw⟩ := hw
        rw [hs_]; clear hs_ σ'
        refine ok_if_eq 46 169 rfl rfl rfl (fun h90 => ?_) (fun h90 => ?_)
        · have hq : z = seeB τ (τ 0 13) := by rw [hz]; simp [seeB, up_if]
          have hl : τ 0 13 < τ 0 6 := seeB_lt (by omega)
          have hnd : ¬ (48 ≤ z ∧ z ≤ 57) := fun q => by rw [if_pos q] at hw; omega
          have s5 := sq (by omega)
          refine ok_aload_n 86 rfl rfl rfl (ok_iconst 87 rfl rfl (by decide) (ok_putI 88 rfl rfl fl_X12_147 rfl rfl rfl rfl (ok_aload_n 89 rfl rfl rfl (ok_iload_n 90 rfl rfl rfl (ok_putI 91 rfl rfl fl_X12_144 rfl rfl rfl rfl (ok_aload_n 92 rfl rfl rfl (ok_dup 93 rfl rfl rfl (ok_getI 94 rfl rfl fl_X12_132 rfl rfl (Or.inl rfl) (ok_iconst 95 rfl rfl (by decide) (ok_iadd 96 rfl rfl (by first | omega | (simp [up_if]; omega) | (simp [up_if] at *; omega)) (ok_putI 97 rfl rfl fl_X12_132 rfl rfl rfl rfl (ok_vret 98 rfl rfl rfl ?_))))))))))))
          refine ⟨rfl, ⟨fr_up (fr_up (fr_up g1 (by omega)) (by omega)) (by omega), by simp [up_if]; omega, by simp [up_if]; omega, by simp [up_if]; omega, by simp [up_if], by simp [up_if]; omega, by simp [up_if]; omega, by simp [up_if]; omega⟩, ?_⟩
          unfold LX
          rw [hsk]
          refine ⟨by simp [up_if, g12], Or.inr (Or.inr ⟨by omega, fun q => hnd (by have := q.2; omega), by simp [up_if], ?_, ?_⟩)⟩
          · simp [up_if]; omega
          · simp [up_if, g13]
        · refine ok_aload_n 47 rfl rfl rfl (ok_iconst 48 rfl rfl (by decide) (ok_putI 49 rfl rfl fl_X12_147 rfl rfl rfl rfl ?_))
          have hd : 48 ≤ z ∧ z ≤ 57 := by
            by_cases q : 48 ≤ z ∧ z ≤ 57
            · exact q
            · rw [if_neg q] at hw; omega
          have hz13 : z = seeB (up τ1 0 11 2) (τ 0 13) := by
            rw [hz, e1]; simp [seeB, up_if]
          refine lpO (fun _ : eS => [some (vr 0), some (vi z)]) (fun τ => τ) (fun ρ => fr (fun c k => c = 0 ∧ 11 ≤ k ∧ k ≤ 15) σ ρ ∧ ρ 0 11 = 2 ∧ ρ 0 12 = τ 0 13 ∧ (τ 0 13 < ρ 0 13 ∨ (ρ 0 13 = τ 0 13 ∧ 48 ≤ seeB ρ (ρ 0 13) ∧ seeB ρ (ρ 0 13) ≤ 57)) ∧ ρ 0 13 ≤ σ 0 6 ∧ 0 ≤ ρ 0 14 ∧ ρ 0 14 ≤ p10 (ρ 0 13 - ρ 0 12) ∧ (∀ j, τ 0 13 ≤ j → j < ρ 0 13 → dgA (σ 5) (σ 0 6) j) ∧ (ρ 0 13 - τ 0 13 ≤ 6 → ρ 0 14 = vaN (σ 5) (τ 0 13) (ρ 0 13 - τ 0 13).toNat)) (fun ρ => (600 - ρ 0 13).toNat) ?_ (up τ1 0 11 2) ⟨fr_up g1 (by omega), by simp [up_if], by simp [up_if]; omega, Or.inr ⟨by simp [up_if]; omega, by rw [up_nk _ _ _ _ (by decide), g13, ← hz13]; exact hd⟩, by simp [up_if]; omega, by simp [up_if]; omega, by simp [up_if, g12, g13, g14, p10], fun j a b => by rw [up_nk _ _ _ _ (by decide), g13] at b; omega, fun _ => by rw [up_nk _ _ _ _ (by decide), g14, up_nk _ _ _ _ (by decide), g13, Int.sub_self]; rfl⟩
          rintro ρ ⟨r1, r2, r3, r4, r5, r6, r7, r8, r9⟩ ihh
          have z5 : ρ 0 13 < σ 0 6 → seeB ρ (ρ 0 13) = σ 5 (ρ 0 13) := fun q => by unfold seeB; rw [if_pos (by have := r1 0 6 (by omega); omega)]; exact r1 5 _ (by omega)
          have nx : 48 ≤ seeB ρ (ρ 0 13) ∧ seeB ρ (ρ 0 13) ≤ 57 → ρ 0 13 < σ 0 6 → ∀ j, τ 0 13 ≤ j → j < ρ 0 13 + 1 → dgA (σ 5) (σ 0 6) j := fun a c j x y => by
            rcases (by omega : j < ρ 0 13 ∨ j = ρ 0 13) with q | q
            · exact r8 j x q
            · rw [q]; have := z5 c; exact ⟨c, by omega⟩
          have r0 : ρ 0 6 = σ 0 6 := r1 0 6 (by omega)
          have rp := p10_le (ρ 0 13 - ρ 0 12)
          refine ok_aload_n 50 rfl rfl rfl (ok_aload_n 51 rfl rfl rfl (ok_getI 52 rfl rfl fl_X12_132 rfl rfl (Or.inl rfl) (ok_callVI (M' := M_Mo_see) (as := [_]) 53 rfl rfl ml_X12_135 (s_Mo_see (by omega) (by omega)) rfl rfl (Nat.le_of_ble_eq_true rfl) ⟨Nat.le_of_ble_eq_true rfl, Nat.le_of_ble_eq_true rfl⟩ rfl (Nat.le_of_ble_eq_true rfl) (fun σ' z hz => ?_))))
          rw [hz.1, hz.2]
          clear hz z σ'
          refine ok_i2l 54 rfl rfl (ok_ldc2 55 (48) rfl rfl kc_X12_150 (by decide) (ok_ldc2 56 (57) rfl rfl kc_X12_152 (by decide) (ok_callSI (M' := M_Mo_isIn) (as := [_, _, _]) 57 rfl rfl ml_X12_99 (s_Mo_isIn) ⟨Nat.le_of_ble_eq_true rfl, Nat.le_of_ble_eq_true rfl⟩ rfl (Nat.le_of_ble_eq_true rfl) (fun σ' w hw => ?_))))
          obtain ⟨hs_, hw⟩ := hw
          rw [hs_]; clear hs_ σ'
          refine ok_if_eq 58 189 rfl rfl rfl (fun h116 => ?_) (fun h116 => ?_)
          · refine ok_vret 98 rfl rfl rfl ?_
            have hn : ¬ (48 ≤ seeB ρ (ρ 0 13) ∧ seeB ρ (ρ 0 13) ≤ 57) := fun q => by rw [if_pos q] at hw; omega
            have ht : τ 0 13 < ρ 0 13 := by omega
            have hdq := r8 (τ 0 13) (Int.le_refl _) ht
            have hde : de (σ 5) (σ 0 6) (τ 0 13) = ρ 0 13 := de_un (by omega) r8 (fun q => hn (by have := z5 q.1; have := q.2; omega))
            refine ⟨rfl, ⟨r1, by omega, by omega, by omega, by omega, fun _ => by omega, by omega, by omega⟩, ?_⟩
            unfold LX
            rw [hsk, hde]
            exact ⟨r3, Or.inr (Or.inl ⟨hdq, r2, rfl, r9⟩)⟩
          · have hd : 48 ≤ seeB ρ (ρ 0 13) ∧ seeB ρ (ρ 0 13) ≤ 57 := by
              by_cases q : 48 ≤ seeB ρ (ρ 0 13) ∧ seeB ρ (ρ 0 13) ≤ 57
              · exact q
              · rw [if_neg q] at hw; omega
            have hl : ρ 0 13 < ρ 0 6 := seeB_lt (by omega)
            refine ok_aload_n 59 rfl rfl rfl (ok_getI 60 rfl rfl fl_X12_132 rfl rfl (Or.inl rfl) (ok_aload_n 61 rfl rfl rfl (ok_getI 62 rfl rfl fl_X12_138 rfl rfl (Or.inl rfl) (ok_isub 63 rfl rfl (by first | omega | (simp [up_if]; omega) | (simp [up_if] at *; omega)) (ok_bipush 64 rfl rfl (by decide) (by decide) (ok_icmp_ge 65 156 rfl rfl rfl (fun h130 => ?_) (fun h130 => ?_)))))))
            · refine ok_aload_n 79 rfl rfl rfl (ok_dup 80 rfl rfl rfl (ok_getI 81 rfl rfl fl_X12_132 rfl rfl (Or.inl rfl) (ok_iconst 82 rfl rfl (by decide) (ok_iadd 83 rfl rfl (by first | omega | (simp [up_if]; omega) | (simp [up_if] at *; omega)) (ok_putI 84 rfl rfl fl_X12_132 rfl rfl rfl rfl (ok_goto 85 98 rfl rfl rfl ?_))))))
              refine ihh _ ⟨fr_up r1 (by omega), by simp [up_if]; omega, by simp [up_if]; omega, Or.inl (by rw [up_same]; omega), by rw [up_same]; omega, by simp [up_if]; omega, ?_, by rw [up_same]; exact nx hd (by omega), fun q => by rw [up_same] at q; omega⟩ (by rw [up_same]; omega)
              rw [up_same, up_nk _ _ _ _ (by decide), up_nk _ _ _ _ (by decide), p10_m (by omega)]
              rw [p10_m (by omega)] at r7
              exact r7
            · refine ok_aload_n 66 rfl rfl rfl (ok_bipush 67 rfl rfl (by decide) (by decide) (ok_aload_n 68 rfl rfl rfl (ok_getI 69 rfl rfl fl_X12_141 rfl rfl (Or.inl rfl) (ok_imul 70 rfl rfl (by first | omega | (simp [up_if]; omega) | (simp [up_if] at *; omega)) (ok_aload_n 71 rfl rfl rfl (ok_aload_n 72 rfl rfl rfl (ok_getI 73 rfl rfl fl_X12_132 rfl rfl (Or.inl rfl) (ok_callVI (M' := M_Mo_see) (as := [_]) 74 rfl rfl ml_X12_135 (s_Mo_see (by omega) (by omega)) rfl rfl (Nat.le_of_ble_eq_true rfl) ⟨Nat.le_of_ble_eq_true rfl, Nat.le_of_ble_eq_true rfl⟩ rfl (Nat.le_of_ble_eq_true rfl) (fun σ' z hz => ?_)))))))))
              rw [hz.1, hz.2]
              clear hz z σ'
              refine ok_iadd 75 rfl rfl (by first | omega | (simp [up_if]; omega) | (simp [up_if] at *; omega)) (ok_bipush 76 rfl rfl (by decide) (by decide) (ok_isub 77 rfl rfl (by first | omega | (simp [up_if]; omega) | (simp [up_if] at *; omega)) (ok_putI 78 rfl rfl fl_X12_141 rfl rfl rfl rfl (ok_aload_n 79 rfl rfl rfl (ok_dup 80 rfl rfl rfl (ok_getI 81 rfl rfl fl_X12_132 rfl rfl (Or.inl rfl) (ok_iconst 82 rfl rfl (by decide) (ok_iadd 83 rfl rfl (by first | omega | (simp [up_if]; omega) | (simp [up_if] at *; omega)) (ok_putI 84 rfl rfl fl_X12_132 rfl rfl rfl rfl (ok_goto 85 98 rfl rfl rfl ?_))))))))))
              have hp := p10_s (d := ρ 0 13 - ρ 0 12) (x := ρ 0 14) (c := seeB ρ (ρ 0 13) - 48) (by omega) (by omega) r7 (by omega)
              refine ihh _ ⟨fr_up (fr_up r1 (by omega)) (by omega), by simp [up_if]; omega, by simp [up_if]; omega, Or.inl (by simp [up_if]; omega), by simp [up_if]; omega, by simp [up_if]; omega, ?_, by rw [up_same]; exact nx hd (by omega), fun q => ?_⟩ (by simp [up_if]; omega)
              · have e : ρ 0 13 + 1 - ρ 0 12 = ρ 0 13 - ρ 0 12 + 1 := by omega
                simp [up_if, e]
                omega
              · rw [up_same, up_nk _ _ _ _ (by decide), up_same, up_nk _ _ _ _ (by decide : (13 : Int) ≠ 14), show ρ 0 13 + 1 - τ 0 13 = (ρ 0 13 - τ 0 13) + 1 by omega, vaN_s (by omega), ← r9 (by omega), show τ 0 13 + (ρ 0 13 - τ 0 13) = ρ 0 13 by omega, ← z5 (by omega)]
                omega
      · have hq : z = seeB τ (τ 0 13) := by rw [hz]; simp [seeB, up_if]
        refine ok_aload_n 37 rfl rfl rfl (ok_iconst 38 rfl rfl (by decide) (ok_putI 39 rfl rfl fl_X12_147 rfl rfl rfl rfl (ok_goto 40 189 rfl rfl rfl (ok_vret 98 rfl rfl rfl ?_))))
        refine ⟨rfl, ⟨fr_up g1 (by omega), by simp [up_if]; omega, by simp [up_if]; omega, by simp [up_if]; omega, by simp [up_if], by simp [up_if], by simp [up_if]; omega, by simp [up_if]; omega⟩, ?_⟩
        have hl : ¬ τ 0 13 < σ 0 6 := fun q => by have := sq q; have := hby (τ 0 13) (by omega) q; omega
        unfold LX
        rw [hsk]
        exact ⟨by rw [up_nk _ _ _ _ (by decide), g12], Or.inl ⟨hl, up_same _ _ _ _, by rw [up_nk _ _ _ _ (by decide), g13]⟩⟩
    · have hl : τ 0 13 < τ 0 6 := seeB_lt (by omega)
      refine ok_aload_n 12 rfl rfl rfl (ok_dup 13 rfl rfl rfl (ok_getI 14 rfl rfl fl_X12_132 rfl rfl (Or.inl rfl) (ok_iconst 15 rfl rfl (by decide) (ok_iadd 16 rfl rfl (by first | omega | (simp [up_if]; omega) | (simp [up_if] at *; omega)) (ok_putI 17 rfl rfl fl_X12_132 rfl rfl rfl rfl (ok_goto 18 0 rfl rfl rfl ?_))))))
      refine ih _ ⟨fr_up f ⟨rfl, rfl⟩, by rw [up_same]; omega, by rw [up_same]; omega, fun j a b => ?_⟩ (by rw [up_same]; omega)
      rw [up_same] at b
      rcases (by omega : j < τ 0 13 ∨ j = τ 0 13) with q | q
      · exact hbl j a q
      · rw [q]
        have := sq (by omega)
        exact ⟨by omega, by omega⟩
end
section
theorem t_Mo_fails {σ : eS} {k : Int} (h0 : σ 0 9 = 0) : MtI shB M_Mo_fails [vr 0, vi k] σ (fun σ' z => z = 0 ∧ σ' = up (up σ 0 9 k) 0 10 (σ 0 12)) := by
  refine Mt.of okM_Mo_fails (Nat.le_of_ble_eq_true rfl) (fun hk hg => ?_)
  refine ok_aload_n 0 rfl rfl rfl (ok_getI 1 rfl rfl fl_X12_154 rfl rfl (Or.inl rfl) (ok_if_ne 2 20 rfl rfl rfl (fun h4 => ?_) (fun h4 => ?_)))
  · exact absurd h0 h4
  · refine ok_aload_n 3 rfl rfl rfl (ok_iload_n 4 rfl rfl rfl (ok_putI 5 rfl rfl fl_X12_154 rfl rfl rfl rfl (ok_aload_n 6 rfl rfl rfl (ok_aload_n 7 rfl rfl rfl (ok_getI 8 rfl rfl fl_X12_138 rfl rfl (Or.inl rfl) (ok_putI 9 rfl rfl fl_X12_157 rfl rfl rfl rfl (ok_iconst 10 rfl rfl (by decide) (ok_zret 11 rfl rfl rfl (by first | omega | (simp [up_if]; omega) | (simp [up_if] at *; omega)) ?_))))))))
    exact ⟨_, rfl, rfl, by rw [up_nk _ _ _ _ (by decide : (12 : Int) ≠ 9)]⟩
/-- a state that stands at a piece -/
def TK (τ : eS) : Prop := sk (τ 5) (τ 0 6) (τ 0 12) = τ 0 12 ∧ ((¬ τ 0 12 < τ 0 6 ∧ τ 0 11 = 0 ∧ τ 0 13 = τ 0 12) ∨ (dgA (τ 5) (τ 0 6) (τ 0 12) ∧ τ 0 11 = 2 ∧ τ 0 13 = de (τ 5) (τ 0 6) (τ 0 12) ∧ (de (τ 5) (τ 0 6) (τ 0 12) - τ 0 12 ≤ 6 → τ 0 14 = vaD (τ 5) (τ 0 12) (de (τ 5) (τ 0 6) (τ 0 12)))) ∨ (τ 0 12 < τ 0 6 ∧ ¬ dgA (τ 5) (τ 0 6) (τ 0 12) ∧ τ 0 11 = 3 ∧ τ 0 15 = τ 5 (τ 0 12) ∧ τ 0 13 = τ 0 12 + 1))
theorem TK_of {σ τ : eS} (hl : lex σ τ) (h : LX σ τ) : TK τ ∧ τ 0 12 = sk (σ 5) (σ 0 6) (σ 0 13) ∧ τ 5 = σ 5 ∧ τ 0 6 = σ 0 6 := by
  have e5 : τ 5 = σ 5 := by funext j; exact hl.1 5 j (by omega)
  have e6 : τ 0 6 = σ 0 6 := hl.1 0 6 (by omega)
  obtain ⟨h1, h2⟩ := h
  refine ⟨?_, h1, e5, e6⟩
  unfold TK
  rw [e5, e6, h1]
  exact ⟨sk_id, h2⟩
def rdA (τ : eS) : Int → Int := fun j => τ 6 j / (Int.gcd (τ 7 j) (τ 6 j) : Int)
def rdU (τ : eS) : Int → Int := fun j => τ 7 j / (Int.gcd (τ 7 j) (τ 6 j) : Int)
/-- what is left to read, from this piece, with k fractions of the row read -/
def PB (τ : eS) (k : Int) : oA := PR (τ 5) (τ 0 6) (τ 0 12) (τ 0 18) k (τ 0 19) (rdA τ) (rdU τ)
def byt (τ : eS) : Prop := ∀ k : Int, 0 ≤ k → k < τ 0 6 → 0 ≤ τ 5 k
theorem rd_up {σ τ : eS} {i a u : Int} (h6 : τ 6 = uf (σ 6) i a) (h7 : τ 7 = uf (σ 7) i u) : rdA τ = uf (rdA σ) i (a / (Int.gcd u a : Int)) ∧ rdU τ = uf (rdU σ) i (u / (Int.gcd u a : Int)) := by
  constructor <;> funext j <;> simp only [rdA, rdU, h6, h7, uf] <;> split <;> rfl
theorem uf2 (f : Int → Int) (k a b : Int) : uf (uf f k a) k b = uf f k b := by funext j; simp only [uf]; split <;> rfl
/-- a fraction read, of the reference -/
def KB (σ : eS) (k : Int) (σ' : eS) (z : Int) : Prop := (z = 1 ∧ TK σ' ∧ PB σ' (k + 1) = PB σ k ∧ σ' 0 10 = σ 0 10) ∨ (z = 0 ∧ (PB σ k).1 = σ' 0 9 ∧ (PB σ k).2.1 = σ' 0 10)
theorem fl_of {τ σ' : eS} {c z : Int} (hc : c ≠ 0) (h : z = 0 ∧ σ' = up (up τ 0 9 c) 0 10 (τ 0 12)) : (z = 0 ∧ fr (fun c k => c = 0 ∧ (k = 9 ∨ k = 10)) τ σ' ∧ σ' 0 9 ≠ 0) ∧ σ' 0 9 = c ∧ σ' 0 10 = τ 0 12 := by
  obtain ⟨hz, e⟩ := h
  subst e
  refine ⟨⟨hz, fr_up (fr_up fr.rf (by omega)) (by omega), by simp [up_if]; exact hc⟩, by simp [up_if], by simp [up_if]⟩
theorem nn_of {P : Prop} {z : Int} (h : (z = 1 ∧ P) ∨ (z = 0 ∧ ¬ P)) (h0 : z = 0) : ¬ P := h.elim (fun q => absurd q.1 (by omega)) (fun q => q.2)
theorem t_Mo_readFraction {σ : eS} {k : Int} (h : Pz σ) (hk0 : 0 ≤ k ∧ k ≤ 8) (hr : 0 ≤ σ 0 18 ∧ σ 0 18 ≤ 7) (hT : TK σ) (hby : byt σ) (hb0 : σ 0 9 = 0) (hk1 : σ 0 11 = 0 → 0 < k) (hs : σ 0 11 = 3 → σ 0 15 ≠ 59) : MtI shB M_Mo_readFraction [vr 0, vi k] σ (fun σ' z => QrF σ k σ' z ∧ KB σ k σ' z) := by
  refine Mt.of okM_Mo_readFraction (Nat.le_of_ble_eq_true rfl) (fun hk hg => ?_)
  have hfail : ∀ (τ σ' : eS) (z c : Int), fr rgF σ τ → Pz τ → c ≠ 0 → (PB σ k).1 = c → (PB σ k).2.1 = τ 0 12 → z = 0 ∧ σ' = up (up τ 0 9 c) 0 10 (τ 0 12) → QrF σ k σ' z ∧ KB σ k σ' z := fun τ σ' z c f0 p0 hc e1 e2 hz0 => by
    obtain ⟨hz, x1, x2⟩ := fl_of hc hz0
    exact ⟨⟨f0.tr (hz.2.1.mono (fun c k q => by simp only [rgF]; omega)), p0.fr (hz.2.1.mono (fun c k q => by omega)), Or.inl ⟨hz.1, hz.2.2⟩⟩, Or.inr ⟨hz.1, by rw [e1, x1], by rw [e2, x2]⟩⟩
  obtain ⟨h1, h2, h3, h4, h5, h6, h7, h8⟩ := id h
  obtain ⟨hq0, hT1⟩ := id hT
  have P1 : ¬ numB σ → PB σ k = (1, σ 0 12, σ 0 18, σ 0 19, rdA σ, rdU σ) := fun hn => by
    unfold PB
    rcases hT1 with ⟨a1, a2, a3⟩ | ⟨a1, a2, a3, a4⟩ | ⟨a1, a2, a3, a4, a5⟩
    · rw [PR_end hq0 a1, if_pos (hk1 a2), show σ 0 6 = σ 0 12 by omega]
    · rw [PR_dig hq0 a1.1 a1.2 rfl, if_pos (by unfold numB at hn; omega)]
    · exact PR_bad hq0 a1 (by have := hs a3; omega) (fun q => a2 ⟨a1, q⟩)
  refine ok_aload_n 0 rfl rfl rfl (ok_callVI (M' := M_Mo_isNumber) (as := []) 1 rfl rfl ml_X12_160 (s_Mo_isNumber h) rfl rfl (Nat.le_of_ble_eq_true rfl) ⟨Nat.le_of_ble_eq_true rfl, Nat.le_of_ble_eq_true rfl⟩ rfl (Nat.le_of_ble_eq_true rfl) (fun σ' z hz => ?_))
  obtain ⟨hs_, hz⟩ := hz
  rw [hs_]; clear hs_ σ'
  refine ok_if_ne 2 13 rfl rfl rfl (fun h4 => ?_) (fun h4 => ?_)
  · have hn : numB σ := by
      rcases hz with q | q
      · exact q.2
      · omega
    clear hz P1
    have hd : dgA (σ 5) (σ 0 6) (σ 0 12) := by
      have := hn.1
      rcases hT1 with ⟨a1, a2, a3⟩ | ⟨a1, a2, a3, a4⟩ | ⟨a1, a2, a3, a4, a5⟩
      · omega
      · exact a1
      · omega
    obtain ⟨e, he⟩ : ∃ e, e = σ 0 13 := ⟨_, rfl⟩
    obtain ⟨a, ha⟩ : ∃ a, a = σ 0 14 := ⟨_, rfl⟩
    have hde : de (σ 5) (σ 0 6) (σ 0 12) = e ∧ vaD (σ 5) (σ 0 12) e = a := by
      have := hn.1
      rcases hT1 with ⟨a1, a2, a3⟩ | ⟨a1, a2, a3, a4⟩ | ⟨a1, a2, a3, a4, a5⟩
      · omega
      · rw [← a3, ← he] at a4
        rw [← ha] at a4
        exact ⟨by rw [he]; exact a3.symm, (a4 (by have := hn.2; omega)).symm⟩
      · omega
    have hP := PR_dig (r := σ 0 18) (k := k) (w := σ 0 19) (ab := rdA σ) (un := rdU σ) hq0 hd.1 hd.2 hde.1
    rw [if_neg (by have := hn.2; omega), hde.2] at hP
    have P3 : k = 8 → PB σ k = (3, σ 0 12, σ 0 18, σ 0 19, rdA σ, rdU σ) := fun q => by unfold PB; rw [hP, if_pos (Or.inr q)]
    have P4 : k ≠ 8 → 0 < σ 0 18 → k = σ 0 19 → PB σ k = (4, σ 0 12, σ 0 18, σ 0 19, rdA σ, rdU σ) := fun q1 q2 q3 => by unfold PB; rw [hP, if_neg (by omega), if_pos ⟨q2, q3⟩]
    refine ok_iload_n 7 rfl rfl rfl (ok_bipush 8 rfl rfl (by decide) (by decide) (ok_icmp_ne 9 25 rfl rfl rfl (fun h16 => ?_) (fun h16 => ?_)))
    · refine ok_aload_n 14 rfl rfl rfl (ok_getI 15 rfl rfl fl_X12_167 rfl rfl (Or.inl rfl) (ok_if_le 16 46 rfl rfl rfl (fun h29 => ?_) (fun h29 => ?_)))
      · have hw : 0 < σ 0 18 → k ≠ σ 0 19 := by omega
        rw [if_neg (by omega), if_neg (by omega)] at hP
        clear P3 P4
        have hix : 8 * σ 0 18 + k = σ 0 18 * 8 + k := by omega
        refine ok_bipush 25 rfl rfl (by decide) (by decide) (ok_aload_n 26 rfl rfl rfl (ok_getI 27 rfl rfl fl_X12_167 rfl rfl (Or.inl rfl) (ok_imul 28 rfl rfl (by first | omega | (have q1 := f2 0 18; have q2 := f2 0 19; omega)) (ok_iload_n 29 rfl rfl rfl (ok_iadd 30 rfl rfl (by first | omega | (have q1 := f2 0 18; have q2 := f2 0 19; omega)) (ok_ist2 31 rfl rfl rfl (ok_aload_n 32 rfl rfl rfl (ok_getR 33 rfl rfl fl_X12_30 rfl rfl (ok_iload_n 34 rfl rfl rfl (ok_aload_n 35 rfl rfl rfl (ok_getI 36 rfl rfl fl_X12_141 rfl rfl (Or.inl rfl) (ok_iast 37 rfl rfl rfl (by first | omega | (have q1 := f2 0 18; have q2 := f2 0 19; omega)) (ok_aload_n 38 rfl rfl rfl (ok_getR 39 rfl rfl fl_X12_33 rfl rfl (ok_iload_n 40 rfl rfl rfl (ok_iconst 41 rfl rfl (by decide) (ok_iast 42 rfl rfl rfl (by first | omega | (have q1 := f2 0 18; have q2 := f2 0 19; omega)) ?_)))))))))))))))))
        obtain ⟨τ, e1⟩ : ∃ x, x = up (up σ 6 (8 * σ 0 18 + k) (σ 0 14)) 7 (8 * σ 0 18 + k) 1 := ⟨_, rfl⟩
        have f1 : fr rgF σ τ := by rw [e1]; exact fr_up (fr_up fr.rf (by simp [rgF])) (by simp [rgF])
        have pt : Pz τ := h.fr (by rw [e1]; exact fr_up (fr_up fr.rf (by omega)) (by omega))
        have u1 : uOk τ (8 * σ 0 18 + k) := by rw [e1]; unfold uOk; simp [up_if]; omega
        have o1 : ∀ j, j ≠ 8 * σ 0 18 + k → τ 6 j = σ 6 j ∧ τ 7 j = σ 7 j := fun j hj => by rw [e1]; simp [up_if, hj]
        have v6 : τ 6 = uf (σ 6) (σ 0 18 * 8 + k) a := by rw [e1, up_fn _ _ _ (by decide), up_uf, ← ha, hix]
        have v7 : τ 7 = uf (σ 7) (σ 0 18 * 8 + k) 1 := by rw [e1, up_uf, up_fn _ _ _ (by decide), hix]
        have t5 : τ 5 = σ 5 := by funext j; exact f1 5 j (by simp [rgF])
        have t6 : τ 0 6 = σ 0 6 := f1 0 6 (by simp [rgF])
        have t12 : τ 0 12 = σ 0 12 := by rw [e1]; simp [up_if]
        have t13 : τ 0 13 = σ 0 13 := by rw [e1]; simp [up_if]
        have t9 : τ 0 9 = σ 0 9 := by rw [e1]; simp [up_if]
        have t10 : τ 0 10 = σ 0 10 := by rw [e1]; simp [up_if]
        have by1 : ∀ k : Int, 0 ≤ k → k < τ 0 6 → 0 ≤ τ 5 k := by rw [t5, t6]; exact hby
        clear h
        first | (simp only [up_ne _ _ _ _ (show (0 : Nat) ≠ 6 by decide)]; rw [← e1]) | rw [← e1]
        clear e1
        refine ok_aload_n 43 rfl rfl rfl (ok_callVV (M' := M_Mo_next) (as := []) 44 rfl rfl ml_X12_173 (t_Mo_next pt.P0 by1) rfl rfl (Nat.le_of_ble_eq_true rfl) ⟨Nat.le_of_ble_eq_true rfl, Nat.le_of_ble_eq_true rfl⟩ rfl (Nat.le_of_ble_eq_true rfl) (fun τ1 hl0 => ?_))
        have hl := hl0.1
        obtain ⟨T1, i12, i5, i6⟩ := TK_of hl hl0.2
        rw [t5, t6, t13, ← he] at i12
        rw [t5] at i5
        rw [t6] at i6
        have p1 := Pz.of pt.P0 hl
        have f2 : fr rgF σ τ1 := f1.tr (hl.1.mono (fun c k q => by simp only [rgF]; omega))
        have l9 := hl.1 0 9 (by omega)
        have l10 := hl.1 0 10 (by omega)
        have l12 := hl.2.1
        have l7 : ∀ j, τ1 7 j = τ 7 j := fun j => hl.1 7 j (by omega)
        have l6 : ∀ j, τ1 6 j = τ 6 j := fun j => hl.1 6 j (by omega)
        have w6 : τ1 6 = uf (σ 6) (σ 0 18 * 8 + k) a := by rw [← v6]; funext j; exact l6 j
        have w7 : τ1 7 = uf (σ 7) (σ 0 18 * 8 + k) 1 := by rw [← v7]; funext j; exact l7 j
        have hfrom : σ 0 12 < σ 0 13 := h6 (by have := hn.1; omega)
        have i18 : τ1 0 18 = σ 0 18 := f2 0 18 (by simp [rgF])
        have i19 : τ1 0 19 = σ 0 19 := f2 0 19 (by simp [rgF])
        have N1 : (τ1 0 11 ≠ 3 ∨ τ1 0 15 ≠ 47) → KB σ k τ1 1 := fun q => by
          refine Or.inl ⟨rfl, T1, ?_, by omega⟩
          have hno : ¬ (sk (σ 5) (σ 0 6) e < σ 0 6 ∧ σ 5 (sk (σ 5) (σ 0 6) e) = 47) := fun qq => by
            obtain ⟨-, T2⟩ := T1
            rw [i5, i6, i12] at T2
            rcases T2 with ⟨a1, a2, a3⟩ | ⟨a1, a2, a3, a4⟩ | ⟨a1, a2, a3, a4, a5⟩
            · exact a1 qq.1
            · have := a1.2; omega
            · omega
          have ru := rd_up w6 w7
          unfold PB
          rw [hP, if_neg hno, i5, i6, i12, i18, i19, ru.1, ru.2]
        refine ok_aload_n 45 rfl rfl rfl (ok_getI 46 rfl rfl fl_X12_147 rfl rfl (Or.inl rfl) (ok_iconst 47 rfl rfl (by decide) (ok_icmp_ne 48 94 rfl rfl rfl (fun h82 => ?_) (fun h82 => ?_))))
        · refine ok_iconst 53 rfl rfl (by decide) (ok_zret 54 rfl rfl rfl (by first | omega | (simp [up_if]; omega) | (simp [up_if] at *; omega)) ?_)
          refine ⟨_, rfl, ⟨f2, p1, Or.inr ⟨rfl, by omega, by omega, by omega, hw, ?_, fun j hj => ?_⟩⟩, N1 (by omega)⟩
          · unfold uOk; rw [l7, l6]; exact u1
          · rw [l7, l6]; exact o1 j hj
        · refine ok_aload_n 49 rfl rfl rfl (ok_getI 50 rfl rfl fl_X12_144 rfl rfl (Or.inl rfl) (ok_bipush 51 rfl rfl (by decide) (by decide) (ok_icmp_eq 52 96 rfl rfl rfl (fun h91 => ?_) (fun h91 => ?_))))
          · have hs3 : τ1 0 11 = 3 ∧ τ1 0 15 = 47 := by omega
            clear N1
            have hS : (sk (σ 5) (σ 0 6) e < σ 0 6 ∧ σ 5 (sk (σ 5) (σ 0 6) e) = 47) ∧ τ1 0 13 = sk (σ 5) (σ 0 6) e + 1 := by
              obtain ⟨-, T2⟩ := T1
              rw [i5, i6, i12] at T2
              rcases T2 with ⟨a1, a2, a3⟩ | ⟨a1, a2, a3, a4⟩ | ⟨a1, a2, a3, a4, a5⟩
              · omega
              · omega
              · exact ⟨⟨a1, by omega⟩, a5⟩
            rw [if_pos hS.1] at hP
            obtain ⟨qq, hqq⟩ : ∃ x, x = sk (σ 5) (σ 0 6) (sk (σ 5) (σ 0 6) e + 1) := ⟨_, rfl⟩
            rw [← hqq] at hP
            have by2 : ∀ k : Int, 0 ≤ k → k < τ1 0 6 → 0 ≤ τ1 5 k := by rw [i5, i6]; exact hby
            refine ok_aload_n 55 rfl rfl rfl (ok_callVV (M' := M_Mo_next) (as := []) 56 rfl rfl ml_X12_173 (t_Mo_next p1.P0 by2) rfl rfl (Nat.le_of_ble_eq_true rfl) ⟨Nat.le_of_ble_eq_true rfl, Nat.le_of_ble_eq_true rfl⟩ rfl (Nat.le_of_ble_eq_true rfl) (fun τ2 hl0 => ?_))
            have hl2 := hl0.1
            obtain ⟨T2, j12, j5, j6⟩ := TK_of hl2 hl0.2
            rw [i5, i6, hS.2, ← hqq] at j12
            rw [i5] at j5
            rw [i6] at j6
            have p2 := Pz.of p1.P0 hl2
            have f3 : fr rgF σ τ2 := f2.tr (hl2.1.mono (fun c k q => by simp only [rgF]; omega))
            have m9 := hl2.1 0 9 (by omega)
            have m10 := hl2.1 0 10 (by omega)
            have m7 : ∀ j, τ2 7 j = τ1 7 j := fun j => hl2.1 7 j (by omega)
            have m6 : ∀ j, τ2 6 j = τ1 6 j := fun j => hl2.1 6 j (by omega)
            have m12 := hl2.2.1
            have k12 := p1.2.1
            have q14 : 0 ≤ τ2 0 14 ∧ τ2 0 14 ≤ 999999 := hl2.2.2.2.2.2.2
            have b2 : τ2 0 9 = 0 := by omega
            obtain ⟨-, T3⟩ := id T2
            rw [j5, j6, j12] at T3
            have D1 : ¬ numB τ2 → PB σ k = (1, qq, σ 0 18, σ 0 19, rdA σ, rdU σ) := fun hn2 => by
              unfold PB
              rw [hP, if_pos ?_]
              unfold numB at hn2
              rcases T3 with ⟨a1, a2, a3⟩ | ⟨a1, a2, a3, a4⟩ | ⟨a1, a2, a3, a4, a5⟩
              · exact Or.inl (fun q => a1 q.1)
              · exact Or.inr (by omega)
              · exact Or.inl a2
            have D2 : numB τ2 → (dgA (σ 5) (σ 0 6) qq ∧ de (σ 5) (σ 0 6) qq = τ2 0 13 ∧ ¬ (6 < τ2 0 13 - qq) ∧ vaD (σ 5) qq (τ2 0 13) = τ2 0 14) := fun hn2 => by
              unfold numB at hn2
              rcases T3 with ⟨a1, a2, a3⟩ | ⟨a1, a2, a3, a4⟩ | ⟨a1, a2, a3, a4, a5⟩
              · omega
              · rw [← a3] at a4; exact ⟨a1, a3.symm, by omega, (a4 (by omega)).symm⟩
              · omega
            refine ok_aload_n 57 rfl rfl rfl (ok_callVI (M' := M_Mo_isNumber) (as := []) 58 rfl rfl ml_X12_160 (s_Mo_isNumber p2) rfl rfl (Nat.le_of_ble_eq_true rfl) ⟨Nat.le_of_ble_eq_true rfl, Nat.le_of_ble_eq_true rfl⟩ rfl (Nat.le_of_ble_eq_true rfl) (fun σ' z hz => ?_))
            obtain ⟨hs_, hz⟩ := hz
            rw [hs_]; clear hs_ σ'
            refine ok_if_ne 59 113 rfl rfl rfl (fun h104 => ?_) (fun h104 => ?_)
            · have hn2 : numB τ2 := by
                rcases hz with q | q
                · exact q.2
                · omega
              clear hz D1
              obtain ⟨g1, g2, g3, g4⟩ := D2 hn2
              rw [g2, g4, if_neg (fun q => q.elim (fun q => q g1) g3)] at hP
              have D3 : τ2 0 14 = 0 → PB σ k = (2, qq, σ 0 18, σ 0 19, rdA σ, rdU σ) := fun q => by unfold PB; rw [hP, if_pos q]
              refine ok_aload_n 64 rfl rfl rfl (ok_getI 65 rfl rfl fl_X12_141 rfl rfl (Or.inl rfl) (ok_if_ne 66 126 rfl rfl rfl (fun h117 => ?_) (fun h117 => ?_)))
              · rw [if_neg (by omega)] at hP
                refine ok_aload_n 71 rfl rfl rfl (ok_getR 72 rfl rfl fl_X12_33 rfl rfl (ok_iload_n 73 rfl rfl rfl (ok_aload_n 74 rfl rfl rfl (ok_getI 75 rfl rfl fl_X12_141 rfl rfl (Or.inl rfl) (ok_iast 76 rfl rfl rfl (by first | omega | (have q1 := f2 0 18; have q2 := f2 0 19; omega)) ?_)))))
                obtain ⟨τ3, e3⟩ : ∃ x, x = up τ2 7 (8 * σ 0 18 + k) (τ2 0 14) := ⟨_, rfl⟩
                have p3 : Pz τ3 := p2.fr (by rw [e3]; exact fr_up fr.rf (by omega))
                have f4 : fr rgF σ τ3 := by rw [e3]; exact fr_up f3 (by simp [rgF])
                have u3 : uOk τ3 (8 * σ 0 18 + k) := by
                  rw [e3]; unfold uOk; simp [up_if]; rw [m6, l6]; have := u1; unfold uOk at this; omega
                have o3 : ∀ j, j ≠ 8 * σ 0 18 + k → τ3 6 j = σ 6 j ∧ τ3 7 j = σ 7 j := fun j hj => by
                  rw [e3]; simp [up_if, hj]; rw [m6, m7, l6, l7]; exact o1 j hj
                have x6 : τ3 6 = uf (σ 6) (σ 0 18 * 8 + k) a := by rw [e3, up_fn _ _ _ (by decide), ← w6]; funext j; exact m6 j
                have x7 : τ3 7 = uf (σ 7) (σ 0 18 * 8 + k) (τ2 0 14) := by rw [e3, up_uf, hix, show τ2 7 = uf (σ 7) (σ 0 18 * 8 + k) 1 by rw [← w7]; funext j; exact m7 j, uf2]
                have y5 : τ3 5 = σ 5 := by rw [e3, up_fn _ _ _ (by decide), j5]
                have y6 : τ3 0 6 = σ 0 6 := by rw [e3, up_ne _ _ _ _ (by decide), j6]
                have t39 : τ3 0 9 = τ2 0 9 := by rw [e3]; simp [up_if]
                have t310 : τ3 0 10 = τ2 0 10 := by rw [e3]; simp [up_if]
                have t313 : τ3 0 13 = τ2 0 13 := by rw [e3]; simp [up_if]
                have by3 : ∀ k : Int, 0 ≤ k → k < τ3 0 6 → 0 ≤ τ3 5 k := by rw [y5, y6]; exact hby
                rw [← e3]
                refine ok_aload_n 77 rfl rfl rfl (ok_callVV (M' := M_Mo_next) (as := []) 78 rfl rfl ml_X12_173 (t_Mo_next p3.P0 by3) rfl rfl (Nat.le_of_ble_eq_true rfl) ⟨Nat.le_of_ble_eq_true rfl, Nat.le_of_ble_eq_true rfl⟩ rfl (Nat.le_of_ble_eq_true rfl) (fun τ4 hl0 => ?_))
                have hl4 := hl0.1
                obtain ⟨T4, k12, k5, k6⟩ := TK_of hl4 hl0.2
                rw [y5, y6, t313] at k12
                rw [y5] at k5
                rw [y6] at k6
                have p4 := Pz.of p3.P0 hl4
                have n9 := hl4.1 0 9 (by omega)
                have n10 := hl4.1 0 10 (by omega)
                have n12 := hl4.2.1
                have k22 := p2.2.1
                refine ok_iconst 79 rfl rfl (by decide) (ok_zret 80 rfl rfl rfl (by first | omega | (simp [up_if]; omega) | (simp [up_if] at *; omega)) ?_)
                refine ⟨_, rfl, ⟨f4.tr (hl4.1.mono (fun c k q => by simp only [rgF]; omega)), p4, Or.inr ⟨rfl, by omega, by omega, by omega, hw, ?_, fun j hj => ?_⟩⟩, Or.inl ⟨rfl, T4, ?_, by omega⟩⟩
                · unfold uOk; rw [hl4.1 7 _ (by omega), hl4.1 6 _ (by omega)]; exact u3
                · rw [hl4.1 7 _ (by omega), hl4.1 6 _ (by omega)]; exact o3 j hj
                · have z6 : τ4 6 = uf (σ 6) (σ 0 18 * 8 + k) a := by rw [← x6]; funext j; exact hl4.1 6 j (by omega)
                  have z7 : τ4 7 = uf (σ 7) (σ 0 18 * 8 + k) (τ2 0 14) := by rw [← x7]; funext j; exact hl4.1 7 j (by omega)
                  have ru := rd_up z6 z7
                  have f5 : fr rgF σ τ4 := f4.tr (hl4.1.mono (fun c k q => by simp only [rgF]; omega))
                  unfold PB
                  rw [hP, k5, k6, k12, f5 0 18 (by simp [rgF]), f5 0 19 (by simp [rgF]), ru.1, ru.2]
                  exact PR_sk sk_id
              · refine ok_aload_n 67 rfl rfl rfl (ok_iconst 68 rfl rfl (by decide) (ok_callVI (M' := M_Mo_fails) (as := [_]) 69 rfl rfl ml_X12_164 (t_Mo_fails b2) rfl rfl (Nat.le_of_ble_eq_true rfl) ⟨Nat.le_of_ble_eq_true rfl, Nat.le_of_ble_eq_true rfl⟩ rfl (Nat.le_of_ble_eq_true rfl) (fun σ' z2 hz2 => ?_)))
                have hq := hfail τ2 σ' z2 2 f3 p2 (by decide) (by rw [D3 (by omega)]) (by rw [D3 (by omega), j12]) hz2
                refine ok_zret 70 rfl rfl rfl (by have := hz2.1; omega) ?_
                exact ⟨_, rfl, hq⟩
            · refine ok_aload_n 60 rfl rfl rfl (ok_iconst 61 rfl rfl (by decide) (ok_callVI (M' := M_Mo_fails) (as := [_]) 62 rfl rfl ml_X12_164 (t_Mo_fails b2) rfl rfl (Nat.le_of_ble_eq_true rfl) ⟨Nat.le_of_ble_eq_true rfl, Nat.le_of_ble_eq_true rfl⟩ rfl (Nat.le_of_ble_eq_true rfl) (fun σ' z2 hz2 => ?_)))
              have hq := hfail τ2 σ' z2 1 f3 p2 (by decide) (by rw [D1 (nn_of hz h104)]) (by rw [D1 (nn_of hz h104), j12]) hz2
              refine ok_zret 63 rfl rfl rfl (by have := hz2.1; omega) ?_
              exact ⟨_, rfl, hq⟩
          · refine ok_iconst 53 rfl rfl (by decide) (ok_zret 54 rfl rfl rfl (by first | omega | (simp [up_if]; omega) | (simp [up_if] at *; omega)) ?_)
            refine ⟨_, rfl, ⟨f2, p1, Or.inr ⟨rfl, by omega, by omega, by omega, hw, ?_, fun j hj => ?_⟩⟩, N1 (by omega)⟩
            · unfold uOk; rw [l7, l6]; exact u1
            · rw [l7, l6]; exact o1 j hj
      · refine ok_iload_n 17 rfl rfl rfl (ok_aload_n 18 rfl rfl rfl (ok_getI 19 rfl rfl fl_X12_170 rfl rfl (Or.inl rfl) (ok_icmp_ne 20 46 rfl rfl rfl (fun h37 => ?_) (fun h37 => ?_))))
        · have hw : 0 < σ 0 18 → k ≠ σ 0 19 := by omega
          rw [if_neg (by omega), if_neg (by omega)] at hP
          clear P3 P4
          have hix : 8 * σ 0 18 + k = σ 0 18 * 8 + k := by omega
          refine ok_bipush 25 rfl rfl (by decide) (by decide) (ok_aload_n 26 rfl rfl rfl (ok_getI 27 rfl rfl fl_X12_167 rfl rfl (Or.inl rfl) (ok_imul 28 rfl rfl (by first | omega | (have q1 := f2 0 18; have q2 := f2 0 19; omega)) (ok_iload_n 29 rfl rfl rfl (ok_iadd 30 rfl rfl (by first | omega | (have q1 := f2 0 18; have q2 := f2 0 19; omega)) (ok_ist2 31 rfl rfl rfl (ok_aload_n 32 rfl rfl rfl (ok_getR 33 rfl rfl fl_X12_30 rfl rfl (ok_iload_n 34 rfl rfl rfl (ok_aload_n 35 rfl rfl rfl (ok_getI 36 rfl rfl fl_X12_141 rfl rfl (Or.inl rfl) (ok_iast 37 rfl rfl rfl (by first | omega | (have q1 := f2 0 18; have q2 := f2 0 19; omega)) (ok_aload_n 38 rfl rfl rfl (ok_getR 39 rfl rfl fl_X12_33 rfl rfl (ok_iload_n 40 rfl rfl rfl (ok_iconst 41 rfl rfl (by decide) (ok_iast 42 rfl rfl rfl (by first | omega | (have q1 := f2 0 18; have q2 := f2 0 19; omega)) ?_)))))))))))))))))
          obtain ⟨τ, e1⟩ : ∃ x, x = up (up σ 6 (8 * σ 0 18 + k) (σ 0 14)) 7 (8 * σ 0 18 + k) 1 := ⟨_, rfl⟩
          have f1 : fr rgF σ τ := by rw [e1]; exact fr_up (fr_up fr.rf (by simp [rgF])) (by simp [rgF])
          have pt : Pz τ := h.fr (by rw [e1]; exact fr_up (fr_up fr.rf (by omega)) (by omega))
          have u1 : uOk τ (8 * σ 0 18 + k) := by rw [e1]; unfold uOk; simp [up_if]; omega
          have o1 : ∀ j, j ≠ 8 * σ 0 18 + k → τ 6 j = σ 6 j ∧ τ 7 j = σ 7 j := fun j hj => by rw [e1]; simp [up_if, hj]
          have v6 : τ 6 = uf (σ 6) (σ 0 18 * 8 + k) a := by rw [e1, up_fn _ _ _ (by decide), up_uf, ← ha, hix]
          have v7 : τ 7 = uf (σ 7) (σ 0 18 * 8 + k) 1 := by rw [e1, up_uf, up_fn _ _ _ (by decide), hix]
          have t5 : τ 5 = σ 5 := by funext j; exact f1 5 j (by simp [rgF])
          have t6 : τ 0 6 = σ 0 6 := f1 0 6 (by simp [rgF])
          have t12 : τ 0 12 = σ 0 12 := by rw [e1]; simp [up_if]
          have t13 : τ 0 13 = σ 0 13 := by rw [e1]; simp [up_if]
          have t9 : τ 0 9 = σ 0 9 := by rw [e1]; simp [up_if]
          have t10 : τ 0 10 = σ 0 10 := by rw [e1]; simp [up_if]
          have by1 : ∀ k : Int, 0 ≤ k → k < τ 0 6 → 0 ≤ τ 5 k := by rw [t5, t6]; exact hby
          clear h
          first | (simp only [up_ne _ _ _ _ (show (0 : Nat) ≠ 6 by decide)]; rw [← e1]) | rw [← e1]
          clear e1
          refine ok_aload_n 43 rfl rfl rfl (ok_callVV (M' := M_Mo_next) (as := []) 44 rfl rfl ml_X12_173 (t_Mo_next pt.P0 by1) rfl rfl (Nat.le_of_ble_eq_true rfl) ⟨Nat.le_of_ble_eq_true rfl, Nat.le_of_ble_eq_true rfl⟩ rfl (Nat.le_of_ble_eq_true rfl) (fun τ1 hl0 => ?_))
          have hl := hl0.1
          obtain ⟨T1, i12, i5, i6⟩ := TK_of hl hl0.2
          rw [t5, t6, t13, ← he] at i12
          rw [t5] at i5
          rw [t6] at i6
          have p1 := Pz.of pt.P0 hl
          have f2 : fr rgF σ τ1 := f1.tr (hl.1.mono (fun c k q => by simp only [rgF]; omega))
          have l9 := hl.1 0 9 (by omega)
          have l10 := hl.1 0 10 (by omega)
          have l12 := hl.2.1
          have l7 : ∀ j, τ1 7 j = τ 7 j := fun j => hl.1 7 j (by omega)
          have l6 : ∀ j, τ1 6 j = τ 6 j := fun j => hl.1 6 j (by omega)
          have w6 : τ1 6 = uf (σ 6) (σ 0 18 * 8 + k) a := by rw [← v6]; funext j; exact l6 j
          have w7 : τ1 7 = uf (σ 7) (σ 0 18 * 8 + k) 1 := by rw [← v7]; funext j; exact l7 j
          have hfrom : σ 0 12 < σ 0 13 := h6 (by have := hn.1; omega)
          have i18 : τ1 0 18 = σ 0 18 := f2 0 18 (by simp [rgF])
          have i19 : τ1 0 19 = σ 0 19 := f2 0 19 (by simp [rgF])
          have N1 : (τ1 0 11 ≠ 3 ∨ τ1 0 15 ≠ 47) → KB σ k τ1 1 := fun q => by
            refine Or.inl ⟨rfl, T1, ?_, by omega⟩
            have hno : ¬ (sk (σ 5) (σ 0 6) e < σ 0 6 ∧ σ 5 (sk (σ 5) (σ 0 6) e) = 47) := fun qq => by
              obtain ⟨-, T2⟩ := T1
              rw [i5, i6, i12] at T2
              rcases T2 with ⟨a1, a2, a3⟩ | ⟨a1, a2, a3, a4⟩ | ⟨a1, a2, a3, a4, a5⟩
              · exact a1 qq.1
              · have := a1.2; omega
              · omega
            have ru := rd_up w6 w7
            unfold PB
            rw [hP, if_neg hno, i5, i6, i12, i18, i19, ru.1, ru.2]
          refine ok_aload_n 45 rfl rfl rfl (ok_getI 46 rfl rfl fl_X12_147 rfl rfl (Or.inl rfl) (ok_iconst 47 rfl rfl (by decide) (ok_icmp_ne 48 94 rfl rfl rfl (fun h82 => ?_) (fun h82 => ?_))))
          · refine ok_iconst 53 rfl rfl (by decide) (ok_zret 54 rfl rfl rfl (by first | omega | (simp [up_if]; omega) | (simp [up_if] at *; omega)) ?_)
            refine ⟨_, rfl, ⟨f2, p1, Or.inr ⟨rfl, by omega, by omega, by omega, hw, ?_, fun j hj => ?_⟩⟩, N1 (by omega)⟩
            · unfold uOk; rw [l7, l6]; exact u1
            · rw [l7, l6]; exact o1 j hj
          · refine ok_aload_n 49 rfl rfl rfl (ok_getI 50 rfl rfl fl_X12_144 rfl rfl (Or.inl rfl) (ok_bipush 51 rfl rfl (by decide) (by decide) (ok_icmp_eq 52 96 rfl rfl rfl (fun h91 => ?_) (fun h91 => ?_))))
            · have hs3 : τ1 0 11 = 3 ∧ τ1 0 15 = 47 := by omega
              clear N1
              have hS : (sk (σ 5) (σ 0 6) e < σ 0 6 ∧ σ 5 (sk (σ 5) (σ 0 6) e) = 47) ∧ τ1 0 13 = sk (σ 5) (σ 0 6) e + 1 := by
                obtain ⟨-, T2⟩ := T1
                rw [i5, i6, i12] at T2
                rcases T2 with ⟨a1, a2, a3⟩ | ⟨a1, a2, a3, a4⟩ | ⟨a1, a2, a3, a4, a5⟩
                · omega
                · omega
                · exact ⟨⟨a1, by omega⟩, a5⟩
              rw [if_pos hS.1] at hP
              obtain ⟨qq, hqq⟩ : ∃ x, x = sk (σ 5) (σ 0 6) (sk (σ 5) (σ 0 6) e + 1) := ⟨_, rfl⟩
              rw [← hqq] at hP
              have by2 : ∀ k : Int, 0 ≤ k → k < τ1 0 6 → 0 ≤ τ1 5 k := by rw [i5, i6]; exact hby
              refine ok_aload_n 55 rfl rfl rfl (ok_callVV (M' := M_Mo_next) (as := []) 56 rfl rfl ml_X12_173 (t_Mo_next p1.P0 by2) rfl rfl (Nat.le_of_ble_eq_true rfl) ⟨Nat.le_of_ble_eq_true rfl, Nat.le_of_ble_eq_true rfl⟩ rfl (Nat.le_of_ble_eq_true rfl) (fun τ2 hl0 => ?_))
              have hl2 := hl0.1
              obtain ⟨T2, j12, j5, j6⟩ := TK_of hl2 hl0.2
              rw [i5, i6, hS.2, ← hqq] at j12
              rw [i5] at j5
              rw [i6] at j6
              have p2 := Pz.of p1.P0 hl2
              have f3 : fr rgF σ τ2 := f2.tr (hl2.1.mono (fun c k q => by simp only [rgF]; omega))
              have m9 := hl2.1 0 9 (by omega)
              have m10 := hl2.1 0 10 (by omega)
              have m7 : ∀ j, τ2 7 j = τ1 7 j := fun j => hl2.1 7 j (by omega)
              have m6 : ∀ j, τ2 6 j = τ1 6 j := fun j => hl2.1 6 j (by omega)
              have m12 := hl2.2.1
              have k12 := p1.2.1
              have q14 : 0 ≤ τ2 0 14 ∧ τ2 0 14 ≤ 999999 := hl2.2.2.2.2.2.2
              have b2 : τ2 0 9 = 0 := by omega
              obtain ⟨-, T3⟩ := id T2
              rw [j5, j6, j12] at T3
              have D1 : ¬ numB τ2 → PB σ k = (1, qq, σ 0 18, σ 0 19, rdA σ, rdU σ) := fun hn2 => by
                unfold PB
                rw [hP, if_pos ?_]
                unfold numB at hn2
                rcases T3 with ⟨a1, a2, a3⟩ | ⟨a1, a2, a3, a4⟩ | ⟨a1, a2, a3, a4, a5⟩
                · exact Or.inl (fun q => a1 q.1)
                · exact Or.inr (by omega)
                · exact Or.inl a2
              have D2 : numB τ2 → (dgA (σ 5) (σ 0 6) qq ∧ de (σ 5) (σ 0 6) qq = τ2 0 13 ∧ ¬ (6 < τ2 0 13 - qq) ∧ vaD (σ 5) qq (τ2 0 13) = τ2 0 14) := fun hn2 => by
                unfold numB at hn2
                rcases T3 with ⟨a1, a2, a3⟩ | ⟨a1, a2, a3, a4⟩ | ⟨a1, a2, a3, a4, a5⟩
                · omega
                · rw [← a3] at a4; exact ⟨a1, a3.symm, by omega, (a4 (by omega)).symm⟩
                · omega
              refine ok_aload_n 57 rfl rfl rfl (ok_callVI (M' := M_Mo_isNumber) (as := []) 58 rfl rfl ml_X12_160 (s_Mo_isNumber p2) rfl rfl (Nat.le_of_ble_eq_true rfl) ⟨Nat.le_of_ble_eq_true rfl, Nat.le_of_ble_eq_true rfl⟩ rfl (Nat.le_of_ble_eq_true rfl) (fun σ' z hz => ?_))
              obtain ⟨hs_, hz⟩ := hz
              rw [hs_]; clear hs_ σ'
              refine ok_if_ne 59 113 rfl rfl rfl (fun h104 => ?_) (fun h104 => ?_)
              · have hn2 : numB τ2 := by
                  rcases hz with q | q
                  · exact q.2
                  · omega
                clear hz D1
                obtain ⟨g1, g2, g3, g4⟩ := D2 hn2
                rw [g2, g4, if_neg (fun q => q.elim (fun q => q g1) g3)] at hP
                have D3 : τ2 0 14 = 0 → PB σ k = (2, qq, σ 0 18, σ 0 19, rdA σ, rdU σ) := fun q => by unfold PB; rw [hP, if_pos q]
                refine ok_aload_n 64 rfl rfl rfl (ok_getI 65 rfl rfl fl_X12_141 rfl rfl (Or.inl rfl) (ok_if_ne 66 126 rfl rfl rfl (fun h117 => ?_) (fun h117 => ?_)))
                · rw [if_neg (by omega)] at hP
                  refine ok_aload_n 71 rfl rfl rfl (ok_getR 72 rfl rfl fl_X12_33 rfl rfl (ok_iload_n 73 rfl rfl rfl (ok_aload_n 74 rfl rfl rfl (ok_getI 75 rfl rfl fl_X12_141 rfl rfl (Or.inl rfl) (ok_iast 76 rfl rfl rfl (by first | omega | (have q1 := f2 0 18; have q2 := f2 0 19; omega)) ?_)))))
                  obtain ⟨τ3, e3⟩ : ∃ x, x = up τ2 7 (8 * σ 0 18 + k) (τ2 0 14) := ⟨_, rfl⟩
                  have p3 : Pz τ3 := p2.fr (by rw [e3]; exact fr_up fr.rf (by omega))
                  have f4 : fr rgF σ τ3 := by rw [e3]; exact fr_up f3 (by simp [rgF])
                  have u3 : uOk τ3 (8 * σ 0 18 + k) := by
                    rw [e3]; unfold uOk; simp [up_if]; rw [m6, l6]; have := u1; unfold uOk at this; omega
                  have o3 : ∀ j, j ≠ 8 * σ 0 18 + k → τ3 6 j = σ 6 j ∧ τ3 7 j = σ 7 j := fun j hj => by
                    rw [e3]; simp [up_if, hj]; rw [m6, m7, l6, l7]; exact o1 j hj
                  have x6 : τ3 6 = uf (σ 6) (σ 0 18 * 8 + k) a := by rw [e3, up_fn _ _ _ (by decide), ← w6]; funext j; exact m6 j
                  have x7 : τ3 7 = uf (σ 7) (σ 0 18 * 8 + k) (τ2 0 14) := by rw [e3, up_uf, hix, show τ2 7 = uf (σ 7) (σ 0 18 * 8 + k) 1 by rw [← w7]; funext j; exact m7 j, uf2]
                  have y5 : τ3 5 = σ 5 := by rw [e3, up_fn _ _ _ (by decide), j5]
                  have y6 : τ3 0 6 = σ 0 6 := by rw [e3, up_ne _ _ _ _ (by decide), j6]
                  have t39 : τ3 0 9 = τ2 0 9 := by rw [e3]; simp [up_if]
                  have t310 : τ3 0 10 = τ2 0 10 := by rw [e3]; simp [up_if]
                  have t313 : τ3 0 13 = τ2 0 13 := by rw [e3]; simp [up_if]
                  have by3 : ∀ k : Int, 0 ≤ k → k < τ3 0 6 → 0 ≤ τ3 5 k := by rw [y5, y6]; exact hby
                  rw [← e3]
                  refine ok_aload_n 77 rfl rfl rfl (ok_callVV (M' := M_Mo_next) (as := []) 78 rfl rfl ml_X12_173 (t_Mo_next p3.P0 by3) rfl rfl (Nat.le_of_ble_eq_true rfl) ⟨Nat.le_of_ble_eq_true rfl, Nat.le_of_ble_eq_true rfl⟩ rfl (Nat.le_of_ble_eq_true rfl) (fun τ4 hl0 => ?_))
                  have hl4 := hl0.1
                  obtain ⟨T4, k12, k5, k6⟩ := TK_of hl4 hl0.2
                  rw [y5, y6, t313] at k12
                  rw [y5] at k5
                  rw [y6] at k6
                  have p4 := Pz.of p3.P0 hl4
                  have n9 := hl4.1 0 9 (by omega)
                  have n10 := hl4.1 0 10 (by omega)
                  have n12 := hl4.2.1
                  have k22 := p2.2.1
                  refine ok_iconst 79 rfl rfl (by decide) (ok_zret 80 rfl rfl rfl (by first | omega | (simp [up_if]; omega) | (simp [up_if] at *; omega)) ?_)
                  refine ⟨_, rfl, ⟨f4.tr (hl4.1.mono (fun c k q => by simp only [rgF]; omega)), p4, Or.inr ⟨rfl, by omega, by omega, by omega, hw, ?_, fun j hj => ?_⟩⟩, Or.inl ⟨rfl, T4, ?_, by omega⟩⟩
                  · unfold uOk; rw [hl4.1 7 _ (by omega), hl4.1 6 _ (by omega)]; exact u3
                  · rw [hl4.1 7 _ (by omega), hl4.1 6 _ (by omega)]; exact o3 j hj
                  · have z6 : τ4 6 = uf (σ 6) (σ 0 18 * 8 + k) a := by rw [← x6]; funext j; exact hl4.1 6 j (by omega)
                    have z7 : τ4 7 = uf (σ 7) (σ 0 18 * 8 + k) (τ2 0 14) := by rw [← x7]; funext j; exact hl4.1 7 j (by omega)
                    have ru := rd_up z6 z7
                    have f5 : fr rgF σ τ4 := f4.tr (hl4.1.mono (fun c k q => by simp only [rgF]; omega))
                    unfold PB
                    rw [hP, k5, k6, k12, f5 0 18 (by simp [rgF]), f5 0 19 (by simp [rgF]), ru.1, ru.2]
                    exact PR_sk sk_id
                · refine ok_aload_n 67 rfl rfl rfl (ok_iconst 68 rfl rfl (by decide) (ok_callVI (M' := M_Mo_fails) (as := [_]) 69 rfl rfl ml_X12_164 (t_Mo_fails b2) rfl rfl (Nat.le_of_ble_eq_true rfl) ⟨Nat.le_of_ble_eq_true rfl, Nat.le_of_ble_eq_true rfl⟩ rfl (Nat.le_of_ble_eq_true rfl) (fun σ' z2 hz2 => ?_)))
                  have hq := hfail τ2 σ' z2 2 f3 p2 (by decide) (by rw [D3 (by omega)]) (by rw [D3 (by omega), j12]) hz2
                  refine ok_zret 70 rfl rfl rfl (by have := hz2.1; omega) ?_
                  exact ⟨_, rfl, hq⟩
              · refine ok_aload_n 60 rfl rfl rfl (ok_iconst 61 rfl rfl (by decide) (ok_callVI (M' := M_Mo_fails) (as := [_]) 62 rfl rfl ml_X12_164 (t_Mo_fails b2) rfl rfl (Nat.le_of_ble_eq_true rfl) ⟨Nat.le_of_ble_eq_true rfl, Nat.le_of_ble_eq_true rfl⟩ rfl (Nat.le_of_ble_eq_true rfl) (fun σ' z2 hz2 => ?_)))
                have hq := hfail τ2 σ' z2 1 f3 p2 (by decide) (by rw [D1 (nn_of hz h104)]) (by rw [D1 (nn_of hz h104), j12]) hz2
                refine ok_zret 63 rfl rfl rfl (by have := hz2.1; omega) ?_
                exact ⟨_, rfl, hq⟩
            · refine ok_iconst 53 rfl rfl (by decide) (ok_zret 54 rfl rfl rfl (by first | omega | (simp [up_if]; omega) | (simp [up_if] at *; omega)) ?_)
              refine ⟨_, rfl, ⟨f2, p1, Or.inr ⟨rfl, by omega, by omega, by omega, hw, ?_, fun j hj => ?_⟩⟩, N1 (by omega)⟩
              · unfold uOk; rw [l7, l6]; exact u1
              · rw [l7, l6]; exact o1 j hj
        · refine ok_aload_n 21 rfl rfl rfl (ok_iconst 22 rfl rfl (by decide) (ok_callVI (M' := M_Mo_fails) (as := [_]) 23 rfl rfl ml_X12_164 (t_Mo_fails hb0) rfl rfl (Nat.le_of_ble_eq_true rfl) ⟨Nat.le_of_ble_eq_true rfl, Nat.le_of_ble_eq_true rfl⟩ rfl (Nat.le_of_ble_eq_true rfl) (fun σ' z2 hz2 => ?_)))
          have hq := hfail σ σ' z2 4 fr.rf h (by decide) (by rw [P4 (by omega) (by omega) (by omega)]) (by rw [P4 (by omega) (by omega) (by omega)]) hz2
          refine ok_zret 24 rfl rfl rfl (by have := hz2.1; omega) ?_
          exact ⟨_, rfl, hq⟩
    · refine ok_aload_n 10 rfl rfl rfl (ok_iconst 11 rfl rfl (by decide) (ok_callVI (M' := M_Mo_fails) (as := [_]) 12 rfl rfl ml_X12_164 (t_Mo_fails hb0) rfl rfl (Nat.le_of_ble_eq_true rfl) ⟨Nat.le_of_ble_eq_true rfl, Nat.le_of_ble_eq_true rfl⟩ rfl (Nat.le_of_ble_eq_true rfl) (fun σ' z2 hz2 => ?_)))
      have hq := hfail σ σ' z2 3 fr.rf h (by decide) (by rw [P3 (by omega)]) (by rw [P3 (by omega)]) hz2
      refine ok_zret 13 rfl rfl rfl (by have := hz2.1; omega) ?_
      exact ⟨_, rfl, hq⟩
  · refine ok_aload_n 3 rfl rfl rfl (ok_iconst 4 rfl rfl (by decide) (ok_callVI (M' := M_Mo_fails) (as := [_]) 5 rfl rfl ml_X12_164 (t_Mo_fails hb0) rfl rfl (Nat.le_of_ble_eq_true rfl) ⟨Nat.le_of_ble_eq_true rfl, Nat.le_of_ble_eq_true rfl⟩ rfl (Nat.le_of_ble_eq_true rfl) (fun σ' z2 hz2 => ?_)))
    have hq := hfail σ σ' z2 1 fr.rf h (by decide) (by rw [P1 (nn_of hz h4)]) (by rw [P1 (nn_of hz h4)]) hz2
    refine ok_zret 6 rfl rfl rfl (by have := hz2.1; omega) ?_
    exact ⟨_, rfl, hq⟩
end
section
theorem TK.mo {σ σ' : eS} (h : TK σ) (f : fr (fun c k => (c ≠ 0 ∧ c ≠ 5) ∨ (c = 0 ∧ (k < 6 ∨ (6 < k ∧ k < 11) ∨ 15 < k))) σ σ') : TK σ' := by
  have e5 : σ' 5 = σ 5 := by funext j; exact f 5 j (by omega)
  unfold TK
  rw [e5, f 0 12 (by omega), f 0 13 (by omega), f 0 6 (by omega), f 0 11 (by omega), f 0 14 (by omega), f 0 15 (by omega)]
  exact h
/-- a row read, of the reference -/
def KR (σ σ' : eS) (z : Int) : Prop := (z = 1 ∧ TK σ' ∧ PB σ' 0 = PB σ 0 ∧ σ' 0 10 = σ 0 10) ∨ (z = 0 ∧ (PB σ 0).1 = σ' 0 9 ∧ (PB σ 0).2.1 = σ' 0 10)
theorem t_Mo_readRow {σ : eS} (h : Pz σ) (hr : RR σ) (hT : TK σ) (hby : byt σ) (hb0 : σ 0 9 = 0) (hs0 : σ 0 11 ≠ 0) : MtI shB M_Mo_readRow [vr 0] σ (fun σ' z => QrR σ σ' z ∧ KR σ σ' z) := by
  refine Mt.of okM_Mo_readRow (Nat.le_of_ble_eq_true rfl) (fun hk hg => ?_)
  have hfail : ∀ (τ σ' : eS) (z c : Int), fr rgR σ τ → Pz τ → c ≠ 0 → (PB σ 0).1 = c → (PB σ 0).2.1 = τ 0 12 → z = 0 ∧ σ' = up (up τ 0 9 c) 0 10 (τ 0 12) → QrR σ σ' z ∧ KR σ σ' z := fun τ σ' z c f0 p0 hc e1 e2 hz0 => by
    obtain ⟨hz, x1, x2⟩ := fl_of hc hz0
    exact ⟨⟨f0.tr (hz.2.1.mono (fun c k q => by simp only [rgR]; omega)), p0.fr (hz.2.1.mono (fun c k q => by omega)), Or.inl ⟨hz.1, hz.2.2⟩⟩, Or.inr ⟨hz.1, by rw [e1, x1], by rw [e2, x2]⟩⟩
  obtain ⟨hq0, hT1⟩ := id hT
  have P1 : ¬ numB σ → ¬ (σ 0 11 = 3 ∧ σ 0 15 = 59) → PB σ 0 = (1, σ 0 12, σ 0 18, σ 0 19, rdA σ, rdU σ) := fun hn hs => by
    unfold PB
    rcases hT1 with ⟨a1, a2, a3⟩ | ⟨a1, a2, a3, a4⟩ | ⟨a1, a2, a3, a4, a5⟩
    · exact absurd a2 hs0
    · rw [PR_dig hq0 a1.1 a1.2 rfl, if_pos (by unfold numB at hn; omega)]
    · exact PR_bad hq0 a1 (by omega) (fun q => a2 ⟨a1, q⟩)
  have P3 : (numB σ ∨ (σ 0 11 = 3 ∧ σ 0 15 = 59)) → σ 0 18 = 8 → PB σ 0 = (3, σ 0 12, σ 0 18, σ 0 19, rdA σ, rdU σ) := fun hn h8 => by
    unfold PB
    unfold numB at hn
    rcases hT1 with ⟨a1, a2, a3⟩ | ⟨a1, a2, a3, a4⟩ | ⟨a1, a2, a3, a4, a5⟩
    · exact absurd a2 hs0
    · rw [PR_dig hq0 a1.1 a1.2 rfl, if_neg (by omega), if_pos (Or.inl h8)]
    · rw [PR_59 hq0 a1 (by omega), if_pos h8]
  obtain ⟨h1, h2, h3, h4, h5, h6, h7, h8⟩ := id h
  obtain ⟨r1, r2, r3, r4, r5⟩ := id hr
  have tail : (numB σ ∨ (σ 0 11 = 3 ∧ σ 0 15 = 59)) → ∀ b : Int, Ok shB M_Mo_readRow 40 [some (vr 0), some (vi b), none] [] σ (fun σ' v => ∃ z, v = some (vi z) ∧ (QrR σ σ' z ∧ KR σ σ' z)) := by
    intro hs b
    have hlt := h6 hs0
    refine ok_aload_n 21 rfl rfl rfl (ok_getI 22 rfl rfl fl_X12_167 rfl rfl (Or.inl rfl) (ok_bipush 23 rfl rfl (by decide) (by decide) (ok_icmp_ne 24 55 rfl rfl rfl (fun h46 => ?_) (fun h46 => ?_))))
    · refine ok_iconst 29 rfl rfl (by decide) (ok_ist2 30 rfl rfl rfl ?_)
      refine lpO (fun q : Int × eS => [some (vr 0), some (vi b), some (vi q.1)]) (fun q => q.2) (fun q => 0 ≤ q.1 ∧ q.1 ≤ 8 ∧ fr rgF σ q.2 ∧ Pz q.2 ∧ (0 < q.1 → σ 0 12 < q.2 0 12) ∧ q.2 0 9 = σ 0 9 ∧ σ 0 12 ≤ q.2 0 12 ∧ (∀ j, 0 ≤ j → j < q.1 → uOk q.2 (8 * σ 0 18 + j)) ∧ (0 < σ 0 18 → q.1 ≤ σ 0 19) ∧ (∀ j, j < 8 * σ 0 18 → q.2 6 j = σ 6 j ∧ q.2 7 j = σ 7 j) ∧ TK q.2 ∧ PB q.2 q.1 = PB σ 0 ∧ (q.2 0 11 = 0 → 0 < q.1) ∧ q.2 0 10 = σ 0 10) (fun q => (700 - q.2 0 12).toNat) ?_ (0, σ) ⟨by omega, by omega, fr.rf, h, fun q => by omega, rfl, Int.le_refl _, fun j a b => by omega, fun _ => by omega, fun j _ => ⟨rfl, rfl⟩, hT, rfl, fun q => absurd q hs0, rfl⟩
      rintro ⟨n, τ⟩ ⟨i1, i2, i3, i4, i5, i6, i7, i8, i9, i10, i11, i12, i13, i14⟩ ih
      dsimp only at i1 i2 i3 i4 i5 i6 i7 i8 i9 i10 i11 i12 i13 i14 ih ⊢
      have e18 : τ 0 18 = σ 0 18 := i3 0 18 (by simp only [rgF]; omega)
      have e19 : τ 0 19 = σ 0 19 := i3 0 19 (by simp only [rgF]; omega)
      have e6 : τ 0 6 = σ 0 6 := i3 0 6 (by simp only [rgF]; omega)
      have f1 : fr rgR σ τ := i3.mono (fun c k q => by simp only [rgF] at q; simp only [rgR]; omega)
      have e5 : τ 5 = σ 5 := by funext j; exact i3 5 j (by simp [rgF])
      have P5 : (τ 0 11 = 3 ∧ τ 0 15 = 59) → τ 0 13 = τ 0 12 + 1 ∧ PB σ 0 = (if 0 < σ 0 18 ∧ n ≠ σ 0 19 then (4, τ 0 12, σ 0 18, σ 0 19, rdA τ, rdU τ) else PR (σ 5) (σ 0 6) (τ 0 12 + 1) (σ 0 18 + 1) 0 (if σ 0 18 = 0 then n else σ 0 19) (rdA τ) (rdU τ)) := fun q => by
        obtain ⟨x1, x2⟩ := i11
        rcases x2 with ⟨a1, a2, a3⟩ | ⟨a1, a2, a3, a4⟩ | ⟨a1, a2, a3, a4, a5⟩
        · omega
        · omega
        · refine ⟨a5, ?_⟩
          rw [← i12]
          unfold PB
          rw [PR_59 x1 a1 (by omega), e18, if_neg (by omega), e19, e5, e6]
      have by1 : byt τ := by unfold byt; rw [e5, e6]; exact hby
      refine ok_aload_n 31 rfl rfl rfl (ok_getI 32 rfl rfl fl_X12_147 rfl rfl (Or.inl rfl) (ok_iconst 33 rfl rfl (by decide) (ok_icmp_ne 34 74 rfl rfl rfl (fun h62 => ?_) (fun h62 => ?_))))
      · refine ok_aload_n 39 rfl rfl rfl (ok_iload_n 40 rfl rfl rfl (ok_callVI (M' := M_Mo_readFraction) (as := [_]) 41 rfl rfl ml_X12_176 (t_Mo_readFraction i4 ⟨i1, i2⟩ ⟨by omega, by omega⟩ i11 by1 (by omega) i13 (by omega)) rfl rfl (Nat.le_of_ble_eq_true rfl) ⟨Nat.le_of_ble_eq_true rfl, Nat.le_of_ble_eq_true rfl⟩ rfl (Nat.le_of_ble_eq_true rfl) (fun τ1 z hz0 => ?_)))
        obtain ⟨⟨z1, z2, z3⟩, z4⟩ := hz0
        have p12 := i4.1
        have p24 := z2.2.1
        have p25 := z2.2.2.1
        have g6 : τ1 0 6 = τ 0 6 := z1 0 6 (by simp only [rgF]; omega)
        refine ok_if_ne 42 84 rfl rfl rfl (fun h79 => ?_) (fun h79 => ?_)
        · refine ok_inc2 45 rfl rfl rfl (by first | omega | (simp [up_if]; omega) | (simp [up_if] at *; omega)) (ok_goto 46 57 rfl rfl rfl ?_)
          rcases z3 with ⟨q, -⟩ | ⟨-, y1, y2, y3, y4, y5, y6⟩
          · omega
          rcases z4 with ⟨-, x1, x2, x3⟩ | ⟨q, -⟩
          rotate_left 1
          · omega
          rw [e18] at y4 y5 y6
          rw [e19] at y4
          refine ih (n + 1, τ1) ⟨by dsimp only; omega, by dsimp only; omega, i3.tr z1, z2, fun _ => by dsimp only; omega, by dsimp only; omega, by dsimp only; omega, lt_ext (fun j a c => ?_) y5, fun q => by have := i9 q; have := y4 q; dsimp only; omega, fun j hj => ?_, x1, x2.trans i12, fun _ => by dsimp only; omega, x3.trans i14⟩ (by dsimp only; omega)
          · have := y6 (8 * σ 0 18 + j) (by omega)
            unfold uOk
            dsimp only
            rw [this.1, this.2]
            exact i8 j a c
          · have := y6 j (by omega)
            dsimp only
            rw [this.1, this.2]
            exact i10 j hj
        · refine ok_iconst 43 rfl rfl (by decide) (ok_zret 44 rfl rfl rfl (by first | omega | (simp [up_if]; omega) | (simp [up_if] at *; omega)) ?_)
          refine ⟨_, rfl, ⟨f1.tr (z1.mono (fun c k q => by simp only [rgF] at q; simp only [rgR]; omega)), z2, Or.inl ⟨rfl, by omega⟩⟩, ?_⟩
          rcases z4 with ⟨q, -⟩ | ⟨-, q1, q2⟩
          · omega
          · rw [i12] at q1 q2; exact Or.inr ⟨rfl, q1, q2⟩
      · refine ok_aload_n 35 rfl rfl rfl (ok_getI 36 rfl rfl fl_X12_144 rfl rfl (Or.inl rfl) (ok_bipush 37 rfl rfl (by decide) (by decide) (ok_icmp_eq 38 90 rfl rfl rfl (fun h71 => ?_) (fun h71 => ?_))))
        · refine ok_aload_n 47 rfl rfl rfl (ok_getI 48 rfl rfl fl_X12_167 rfl rfl (Or.inl rfl) (ok_if_ne 49 105 rfl rfl rfl (fun h94 => ?_) (fun h94 => ?_)))
          · refine ok_iload_n 54 rfl rfl rfl (ok_aload_n 55 rfl rfl rfl (ok_getI 56 rfl rfl fl_X12_170 rfl rfl (Or.inl rfl) (ok_icmp_eq 57 119 rfl rfl rfl (fun h110 => ?_) (fun h110 => ?_))))
            · obtain ⟨ρ, er⟩ : ∃ x : eS, x = (if σ 0 18 = 0 then up τ 0 19 n else τ) := ⟨_, rfl⟩
              have fρ : fr rgR σ ρ := by
                rw [er]; split
                · exact fr_up f1 (by simp [rgR])
                · exact f1
              have pρ : Pz ρ := by
                rw [er]; split
                · exact i4.fr (fr_up fr.rf (by omega))
                · exact i4
              have w19 : ρ 0 19 = n := by
                rw [er]; split
                · simp [up_if]
                · omega
              have w18 : ρ 0 18 = σ 0 18 := by
                rw [er]; split
                · simp [up_if]; exact e18
                · exact e18
              have w9 : ρ 0 9 = σ 0 9 := by
                rw [er]; split
                · simp [up_if]; exact i6
                · exact i6
              have w10 : ρ 0 10 = τ 0 10 := by
                rw [er]; split
                · simp [up_if]
                · rfl
              have w12 : ρ 0 12 = τ 0 12 := by
                rw [er]; split
                · simp [up_if]
                · rfl
              have w13 : ρ 0 13 = τ 0 13 := by
                rw [er]; split
                · simp [up_if]
                · rfl
              have w67 : ∀ j, ρ 6 j = τ 6 j ∧ ρ 7 j = τ 7 j := fun j => by
                rw [er]; split
                · simp [up_if]
                · exact ⟨rfl, rfl⟩
              have w5 : ρ 5 = τ 5 := by
                rw [er]; split
                · rw [up_fn _ _ _ (by decide)]
                · rfl
              have w6 : ρ 0 6 = τ 0 6 := by
                rw [er]; split
                · simp [up_if]
                · rfl
              have by2 : ∀ k : Int, 0 ≤ k → k < ρ 0 6 → 0 ≤ ρ 5 k := by rw [w5, w6]; exact by1
              obtain ⟨x1, x2⟩ := P5 (by omega)
              rw [if_neg (by omega)] at x2
              have wn : (if σ 0 18 = 0 then n else σ 0 19) = n := by split <;> omega
              rw [wn] at x2
              have uu : uRows ρ (σ 0 18 + 1) n := by
                intro i j a1 a2 a3 a4
                unfold uOk
                rw [(w67 _).1, (w67 _).2]
                by_cases q : i = σ 0 18
                · rw [q]; exact i8 j a3 a4
                · have := i10 (8 * i + j) (by omega)
                  rw [this.1, this.2]
                  exact r5 i j a1 (by omega) a3 (by have := i9 (by omega); omega)
              have t12 := i4.1
              have t13 : τ 0 12 < τ 0 13 := i4.2.2.2.2.2.1 (by omega)
              first | (have er' : up τ 0 19 n = ρ := by rw [er, if_pos (by omega)]
                       rw [er']) | (have er' : τ = ρ := by rw [er, if_neg (by omega)]
                                    rw [er'])
              clear er er'
              refine ok_aload_n 62 rfl rfl rfl (ok_callVV (M' := M_Mo_next) (as := []) 63 rfl rfl ml_X12_173 (t_Mo_next pρ.P0 by2) rfl rfl (Nat.le_of_ble_eq_true rfl) ⟨Nat.le_of_ble_eq_true rfl, Nat.le_of_ble_eq_true rfl⟩ rfl (Nat.le_of_ble_eq_true rfl) (fun τ1 hl0 => ?_))
              have hl := hl0.1
              obtain ⟨T1, j12, j5, j6⟩ := TK_of hl hl0.2
              rw [w5, e5, w6, e6, w13, x1] at j12
              rw [w5, e5] at j5
              rw [w6, e6] at j6
              have p1 := Pz.of pρ.P0 hl
              have l18 := hl.1 0 18 (by omega)
              have l19 := hl.1 0 19 (by omega)
              have l9 := hl.1 0 9 (by omega)
              have l12 := hl.2.1
              refine ok_aload_n 64 rfl rfl rfl (ok_dup 65 rfl rfl rfl (ok_getI 66 rfl rfl fl_X12_167 rfl rfl (Or.inl rfl) (ok_iconst 67 rfl rfl (by decide) (ok_iadd 68 rfl rfl (by first | omega | (simp [up_if]; omega) | (simp [up_if] at *; omega)) (ok_putI 69 rfl rfl fl_X12_167 rfl rfl rfl rfl (ok_iconst 70 rfl rfl (by decide) (ok_zret 71 rfl rfl rfl (by first | omega | (simp [up_if]; omega) | (simp [up_if] at *; omega)) ?_)))))))
              refine ⟨_, rfl, ⟨fr_up (fρ.tr (hl.1.mono (fun c k q => by simp only [rgR]; omega))) (by simp [rgR]), p1.fr (fr_up fr.rf (by omega)), Or.inr ⟨rfl, by simp [up_if]; omega, ?_, by simp [up_if]; omega⟩⟩, Or.inl ⟨rfl, T1.mo (fr_up fr.rf (by omega)), ?_, by rw [up_nk _ _ _ _ (by decide), hl.1 0 10 (by omega), w10]; exact i14⟩⟩
              rotate_left 1
              · rw [x2]
                unfold PB
                have z6 : τ1 6 = τ 6 := by funext j; rw [hl.1 6 j (by omega)]; exact (w67 j).1
                have z7 : τ1 7 = τ 7 := by funext j; rw [hl.1 7 j (by omega)]; exact (w67 j).2
                have ra : rdA (up τ1 0 18 (τ1 0 18 + 1)) = rdA τ := by unfold rdA; rw [up_fn _ _ _ (by decide), up_fn _ _ _ (by decide), z6, z7]
                have ru : rdU (up τ1 0 18 (τ1 0 18 + 1)) = rdU τ := by unfold rdU; rw [up_fn _ _ _ (by decide), up_fn _ _ _ (by decide), z6, z7]
                rw [ra, ru, up_fn _ _ _ (by decide), j5, up_nk _ _ _ _ (by decide), j6, up_nk _ _ _ _ (by decide), j12, up_same, up_nk _ _ _ _ (by decide), l18, l19, w18, w19]
                exact PR_sk sk_id
              refine ⟨by simp [up_if]; omega, by simp [up_if]; omega, by simp [up_if]; omega, by simp [up_if]; omega, ?_⟩
              intro i j a1 a2 a3 a4
              simp [up_if] at a2 a4
              unfold uOk
              rw [up_ne _ _ _ _ (by decide), up_ne _ _ _ _ (by decide), hl.1 7 _ (by omega), hl.1 6 _ (by omega)]
              exact uu i j a1 (by omega) a3 (by omega)
            · refine ok_aload_n 58 rfl rfl rfl (ok_iconst 59 rfl rfl (by decide) (ok_callVI (M' := M_Mo_fails) (as := [_]) 60 rfl rfl ml_X12_164 (t_Mo_fails (by omega)) rfl rfl (Nat.le_of_ble_eq_true rfl) ⟨Nat.le_of_ble_eq_true rfl, Nat.le_of_ble_eq_true rfl⟩ rfl (Nat.le_of_ble_eq_true rfl) (fun σ' z hz => ?_)))
              obtain ⟨-, x2⟩ := P5 (by omega)
              rw [if_pos (by omega)] at x2
              have hq := hfail τ σ' z 4 f1 i4 (by decide) (by rw [x2]) (by rw [x2]) hz
              refine ok_zret 61 rfl rfl rfl (by have := hz.1; omega) ?_
              exact ⟨_, rfl, hq⟩
          · refine ok_aload_n 50 rfl rfl rfl (ok_iload_n 51 rfl rfl rfl (ok_putI 52 rfl rfl fl_X12_170 rfl rfl rfl rfl (ok_goto 53 119 rfl rfl rfl ?_)))
            obtain ⟨ρ, er⟩ : ∃ x : eS, x = (if σ 0 18 = 0 then up τ 0 19 n else τ) := ⟨_, rfl⟩
            have fρ : fr rgR σ ρ := by
              rw [er]; split
              · exact fr_up f1 (by simp [rgR])
              · exact f1
            have pρ : Pz ρ := by
              rw [er]; split
              · exact i4.fr (fr_up fr.rf (by omega))
              · exact i4
            have w19 : ρ 0 19 = n := by
              rw [er]; split
              · simp [up_if]
              · omega
            have w18 : ρ 0 18 = σ 0 18 := by
              rw [er]; split
              · simp [up_if]; exact e18
              · exact e18
            have w9 : ρ 0 9 = σ 0 9 := by
              rw [er]; split
              · simp [up_if]; exact i6
              · exact i6
            have w10 : ρ 0 10 = τ 0 10 := by
              rw [er]; split
              · simp [up_if]
              · rfl
            have w12 : ρ 0 12 = τ 0 12 := by
              rw [er]; split
              · simp [up_if]
              · rfl
            have w13 : ρ 0 13 = τ 0 13 := by
              rw [er]; split
              · simp [up_if]
              · rfl
            have w67 : ∀ j, ρ 6 j = τ 6 j ∧ ρ 7 j = τ 7 j := fun j => by
              rw [er]; split
              · simp [up_if]
              · exact ⟨rfl, rfl⟩
            have w5 : ρ 5 = τ 5 := by
              rw [er]; split
              · rw [up_fn _ _ _ (by decide)]
              · rfl
            have w6 : ρ 0 6 = τ 0 6 := by
              rw [er]; split
              · simp [up_if]
              · rfl
            have by2 : ∀ k : Int, 0 ≤ k → k < ρ 0 6 → 0 ≤ ρ 5 k := by rw [w5, w6]; exact by1
            obtain ⟨x1, x2⟩ := P5 (by omega)
            rw [if_neg (by omega)] at x2
            have wn : (if σ 0 18 = 0 then n else σ 0 19) = n := by split <;> omega
            rw [wn] at x2
            have uu : uRows ρ (σ 0 18 + 1) n := by
              intro i j a1 a2 a3 a4
              unfold uOk
              rw [(w67 _).1, (w67 _).2]
              by_cases q : i = σ 0 18
              · rw [q]; exact i8 j a3 a4
              · have := i10 (8 * i + j) (by omega)
                rw [this.1, this.2]
                exact r5 i j a1 (by omega) a3 (by have := i9 (by omega); omega)
            have t12 := i4.1
            have t13 : τ 0 12 < τ 0 13 := i4.2.2.2.2.2.1 (by omega)
            first | (have er' : up τ 0 19 n = ρ := by rw [er, if_pos (by omega)]
                     rw [er']) | (have er' : τ = ρ := by rw [er, if_neg (by omega)]
                                  rw [er'])
            clear er er'
            refine ok_aload_n 62 rfl rfl rfl (ok_callVV (M' := M_Mo_next) (as := []) 63 rfl rfl ml_X12_173 (t_Mo_next pρ.P0 by2) rfl rfl (Nat.le_of_ble_eq_true rfl) ⟨Nat.le_of_ble_eq_true rfl, Nat.le_of_ble_eq_true rfl⟩ rfl (Nat.le_of_ble_eq_true rfl) (fun τ1 hl0 => ?_))
            have hl := hl0.1
            obtain ⟨T1, j12, j5, j6⟩ := TK_of hl hl0.2
            rw [w5, e5, w6, e6, w13, x1] at j12
            rw [w5, e5] at j5
            rw [w6, e6] at j6
            have p1 := Pz.of pρ.P0 hl
            have l18 := hl.1 0 18 (by omega)
            have l19 := hl.1 0 19 (by omega)
            have l9 := hl.1 0 9 (by omega)
            have l12 := hl.2.1
            refine ok_aload_n 64 rfl rfl rfl (ok_dup 65 rfl rfl rfl (ok_getI 66 rfl rfl fl_X12_167 rfl rfl (Or.inl rfl) (ok_iconst 67 rfl rfl (by decide) (ok_iadd 68 rfl rfl (by first | omega | (simp [up_if]; omega) | (simp [up_if] at *; omega)) (ok_putI 69 rfl rfl fl_X12_167 rfl rfl rfl rfl (ok_iconst 70 rfl rfl (by decide) (ok_zret 71 rfl rfl rfl (by first | omega | (simp [up_if]; omega) | (simp [up_if] at *; omega)) ?_)))))))
            refine ⟨_, rfl, ⟨fr_up (fρ.tr (hl.1.mono (fun c k q => by simp only [rgR]; omega))) (by simp [rgR]), p1.fr (fr_up fr.rf (by omega)), Or.inr ⟨rfl, by simp [up_if]; omega, ?_, by simp [up_if]; omega⟩⟩, Or.inl ⟨rfl, T1.mo (fr_up fr.rf (by omega)), ?_, by rw [up_nk _ _ _ _ (by decide), hl.1 0 10 (by omega), w10]; exact i14⟩⟩
            rotate_left 1
            · rw [x2]
              unfold PB
              have z6 : τ1 6 = τ 6 := by funext j; rw [hl.1 6 j (by omega)]; exact (w67 j).1
              have z7 : τ1 7 = τ 7 := by funext j; rw [hl.1 7 j (by omega)]; exact (w67 j).2
              have ra : rdA (up τ1 0 18 (τ1 0 18 + 1)) = rdA τ := by unfold rdA; rw [up_fn _ _ _ (by decide), up_fn _ _ _ (by decide), z6, z7]
              have ru : rdU (up τ1 0 18 (τ1 0 18 + 1)) = rdU τ := by unfold rdU; rw [up_fn _ _ _ (by decide), up_fn _ _ _ (by decide), z6, z7]
              rw [ra, ru, up_fn _ _ _ (by decide), j5, up_nk _ _ _ _ (by decide), j6, up_nk _ _ _ _ (by decide), j12, up_same, up_nk _ _ _ _ (by decide), l18, l19, w18, w19]
              exact PR_sk sk_id
            refine ⟨by simp [up_if]; omega, by simp [up_if]; omega, by simp [up_if]; omega, by simp [up_if]; omega, ?_⟩
            intro i j a1 a2 a3 a4
            simp [up_if] at a2 a4
            unfold uOk
            rw [up_ne _ _ _ _ (by decide), up_ne _ _ _ _ (by decide), hl.1 7 _ (by omega), hl.1 6 _ (by omega)]
            exact uu i j a1 (by omega) a3 (by omega)
        · refine ok_aload_n 39 rfl rfl rfl (ok_iload_n 40 rfl rfl rfl (ok_callVI (M' := M_Mo_readFraction) (as := [_]) 41 rfl rfl ml_X12_176 (t_Mo_readFraction i4 ⟨i1, i2⟩ ⟨by omega, by omega⟩ i11 by1 (by omega) i13 (by omega)) rfl rfl (Nat.le_of_ble_eq_true rfl) ⟨Nat.le_of_ble_eq_true rfl, Nat.le_of_ble_eq_true rfl⟩ rfl (Nat.le_of_ble_eq_true rfl) (fun τ1 z hz0 => ?_)))
          obtain ⟨⟨z1, z2, z3⟩, z4⟩ := hz0
          have p12 := i4.1
          have p24 := z2.2.1
          have p25 := z2.2.2.1
          have g6 : τ1 0 6 = τ 0 6 := z1 0 6 (by simp only [rgF]; omega)
          refine ok_if_ne 42 84 rfl rfl rfl (fun h79 => ?_) (fun h79 => ?_)
          · refine ok_inc2 45 rfl rfl rfl (by first | omega | (simp [up_if]; omega) | (simp [up_if] at *; omega)) (ok_goto 46 57 rfl rfl rfl ?_)
            rcases z3 with ⟨q, -⟩ | ⟨-, y1, y2, y3, y4, y5, y6⟩
            · omega
            rcases z4 with ⟨-, x1, x2, x3⟩ | ⟨q, -⟩
            rotate_left 1
            · omega
            rw [e18] at y4 y5 y6
            rw [e19] at y4
            refine ih (n + 1, τ1) ⟨by dsimp only; omega, by dsimp only; omega, i3.tr z1, z2, fun _ => by dsimp only; omega, by dsimp only; omega, by dsimp only; omega, lt_ext (fun j a c => ?_) y5, fun q => by have := i9 q; have := y4 q; dsimp only; omega, fun j hj => ?_, x1, x2.trans i12, fun _ => by dsimp only; omega, x3.trans i14⟩ (by dsimp only; omega)
            · have := y6 (8 * σ 0 18 + j) (by omega)
              unfold uOk
              dsimp only
              rw [this.1, this.2]
              exact i8 j a c
            · have := y6 j (by omega)
              dsimp only
              rw [this.1, this.2]
              exact i10 j hj
          · refine ok_iconst 43 rfl rfl (by decide) (ok_zret 44 rfl rfl rfl (by first | omega | (simp [up_if]; omega) | (simp [up_if] at *; omega)) ?_)
            refine ⟨_, rfl, ⟨f1.tr (z1.mono (fun c k q => by simp only [rgF] at q; simp only [rgR]; omega)), z2, Or.inl ⟨rfl, by omega⟩⟩, ?_⟩
            rcases z4 with ⟨q, -⟩ | ⟨-, q1, q2⟩
            · omega
            · rw [i12] at q1 q2; exact Or.inr ⟨rfl, q1, q2⟩
    · refine ok_aload_n 25 rfl rfl rfl (ok_iconst 26 rfl rfl (by decide) (ok_callVI (M' := M_Mo_fails) (as := [_]) 27 rfl rfl ml_X12_164 (t_Mo_fails hb0) rfl rfl (Nat.le_of_ble_eq_true rfl) ⟨Nat.le_of_ble_eq_true rfl, Nat.le_of_ble_eq_true rfl⟩ rfl (Nat.le_of_ble_eq_true rfl) (fun σ' z hz => ?_)))
      have hq := hfail σ σ' z 3 fr.rf h (by decide) (by rw [P3 hs (by omega)]) (by rw [P3 hs (by omega)]) hz
      refine ok_zret 28 rfl rfl rfl (by have := hz.1; omega) ?_
      exact ⟨_, rfl, hq⟩
  refine ok_aload_n 0 rfl rfl rfl (ok_callVI (M' := M_Mo_isNumber) (as := []) 1 rfl rfl ml_X12_160 (s_Mo_isNumber h) rfl rfl (Nat.le_of_ble_eq_true rfl) ⟨Nat.le_of_ble_eq_true rfl, Nat.le_of_ble_eq_true rfl⟩ rfl (Nat.le_of_ble_eq_true rfl) (fun σ' z hz => ?_))
  obtain ⟨hs_, hz⟩ := hz
  rw [hs_]; clear hs_ σ'
  refine ok_if_ne 2 24 rfl rfl rfl (fun h4 => ?_) (fun h4 => ?_)
  · refine ok_iconst 11 rfl rfl (by decide) (ok_goto 12 29 rfl rfl rfl (ok_ist1 14 rfl rfl rfl (ok_iload_n 15 rfl rfl rfl (ok_if_ne 16 40 rfl rfl rfl (fun h31 => ?_) (fun h31 => ?_)))))
    · refine tail ?_ _
      rcases hz with ⟨-, q⟩ | ⟨q, -⟩
      · exact Or.inl q
      · exact Or.inr (by omega)
    · refine ok_aload_n 17 rfl rfl rfl (ok_iconst 18 rfl rfl (by decide) (ok_callVI (M' := M_Mo_fails) (as := [_]) 19 rfl rfl ml_X12_164 (t_Mo_fails hb0) rfl rfl (Nat.le_of_ble_eq_true rfl) ⟨Nat.le_of_ble_eq_true rfl, Nat.le_of_ble_eq_true rfl⟩ rfl (Nat.le_of_ble_eq_true rfl) (fun σ' z2 hz2 => ?_)))
      have hq := hfail σ σ' z2 1 fr.rf h (by decide) (by rw [P1 (nn_of hz (by omega)) (by omega)]) (by rw [P1 (nn_of hz (by omega)) (by omega)]) hz2
      refine ok_zret 20 rfl rfl rfl (by have := hz2.1; omega) ?_
      exact ⟨_, rfl, hq⟩
  · refine ok_aload_n 3 rfl rfl rfl (ok_getI 4 rfl rfl fl_X12_147 rfl rfl (Or.inl rfl) (ok_iconst 5 rfl rfl (by decide) (ok_icmp_ne 6 28 rfl rfl rfl (fun h12 => ?_) (fun h12 => ?_))))
    · refine ok_iconst 13 rfl rfl (by decide) (ok_ist1 14 rfl rfl rfl (ok_iload_n 15 rfl rfl rfl (ok_if_ne 16 40 rfl rfl rfl (fun h31 => ?_) (fun h31 => ?_))))
      · refine tail ?_ _
        rcases hz with ⟨-, q⟩ | ⟨q, -⟩
        · exact Or.inl q
        · exact Or.inr (by omega)
      · refine ok_aload_n 17 rfl rfl rfl (ok_iconst 18 rfl rfl (by decide) (ok_callVI (M' := M_Mo_fails) (as := [_]) 19 rfl rfl ml_X12_164 (t_Mo_fails hb0) rfl rfl (Nat.le_of_ble_eq_true rfl) ⟨Nat.le_of_ble_eq_true rfl, Nat.le_of_ble_eq_true rfl⟩ rfl (Nat.le_of_ble_eq_true rfl) (fun σ' z2 hz2 => ?_)))
        have hq := hfail σ σ' z2 1 fr.rf h (by decide) (by rw [P1 (nn_of hz (by omega)) (by omega)]) (by rw [P1 (nn_of hz (by omega)) (by omega)]) hz2
        refine ok_zret 20 rfl rfl rfl (by have := hz2.1; omega) ?_
        exact ⟨_, rfl, hq⟩
    · refine ok_aload_n 7 rfl rfl rfl (ok_getI 8 rfl rfl fl_X12_144 rfl rfl (Or.inl rfl) (ok_bipush 9 rfl rfl (by decide) (by decide) (ok_icmp_ne 10 28 rfl rfl rfl (fun h21 => ?_) (fun h21 => ?_))))
      · refine ok_iconst 13 rfl rfl (by decide) (ok_ist1 14 rfl rfl rfl (ok_iload_n 15 rfl rfl rfl (ok_if_ne 16 40 rfl rfl rfl (fun h31 => ?_) (fun h31 => ?_))))
        · refine tail ?_ _
          rcases hz with ⟨-, q⟩ | ⟨q, -⟩
          · exact Or.inl q
          · exact Or.inr (by omega)
        · refine ok_aload_n 17 rfl rfl rfl (ok_iconst 18 rfl rfl (by decide) (ok_callVI (M' := M_Mo_fails) (as := [_]) 19 rfl rfl ml_X12_164 (t_Mo_fails hb0) rfl rfl (Nat.le_of_ble_eq_true rfl) ⟨Nat.le_of_ble_eq_true rfl, Nat.le_of_ble_eq_true rfl⟩ rfl (Nat.le_of_ble_eq_true rfl) (fun σ' z2 hz2 => ?_)))
          have hq := hfail σ σ' z2 1 fr.rf h (by decide) (by rw [P1 (nn_of hz (by omega)) (by omega)]) (by rw [P1 (nn_of hz (by omega)) (by omega)]) hz2
          refine ok_zret 20 rfl rfl rfl (by have := hz2.1; omega) ?_
          exact ⟨_, rfl, hq⟩
      · refine ok_iconst 11 rfl rfl (by decide) (ok_goto 12 29 rfl rfl rfl (ok_ist1 14 rfl rfl rfl (ok_iload_n 15 rfl rfl rfl (ok_if_ne 16 40 rfl rfl rfl (fun h31 => ?_) (fun h31 => ?_)))))
        · refine tail ?_ _
          rcases hz with ⟨-, q⟩ | ⟨q, -⟩
          · exact Or.inl q
          · exact Or.inr (by omega)
        · refine ok_aload_n 17 rfl rfl rfl (ok_iconst 18 rfl rfl (by decide) (ok_callVI (M' := M_Mo_fails) (as := [_]) 19 rfl rfl ml_X12_164 (t_Mo_fails hb0) rfl rfl (Nat.le_of_ble_eq_true rfl) ⟨Nat.le_of_ble_eq_true rfl, Nat.le_of_ble_eq_true rfl⟩ rfl (Nat.le_of_ble_eq_true rfl) (fun σ' z2 hz2 => ?_)))
          have hq := hfail σ σ' z2 1 fr.rf h (by decide) (by rw [P1 (nn_of hz (by omega)) (by omega)]) (by rw [P1 (nn_of hz (by omega)) (by omega)]) hz2
          refine ok_zret 20 rfl rfl rfl (by have := hz2.1; omega) ?_
          exact ⟨_, rfl, hq⟩
end
