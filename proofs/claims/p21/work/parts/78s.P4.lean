theorem up_fn (σ : eS) {c c' : Nat} (k z : Int) (h : c' ≠ c) : (up σ c k z) c' = σ c' := by funext j; exact up_ne _ _ _ _ h
theorem up_uf (σ : eS) (c : Nat) (k z : Int) : (up σ c k z) c = uf (σ c) k z := by funext j; rw [up_if]; unfold uf; simp
def PA (σ : eS) : oA := PR (σ 11) (σ 10 3) (σ 10 6) (σ 10 7) (σ 10 8) (σ 10 9) (σ 12) (σ 13)
/-- a step of the reading, of the class: no fault, and what is left is what was; or the fault of the whole -/
def KA (σ σ' : eS) : Prop := (σ' 10 4 = 0 ∧ PA σ' = PA σ ∧ σ 10 6 < σ' 10 6 ∧ σ' 10 5 = σ 10 5) ∨ (σ' 10 4 ≠ 0 ∧ (PA σ).1 = σ' 10 4 ∧ (PA σ).2.1 = σ' 10 5)
theorem sk_0 {B : Int → Int} {L p : Int} (h : ¬ blA B L p) : sk B L p = p := sk_un (Int.le_refl _) (fun i a b => by omega) h
theorem kf_weak {υ ω : eS} {a u : Int} (ha : 0 ≤ a ∧ a ≤ 999999) (hu : 1 ≤ u ∧ u ≤ 999999) (e : ω = up (up (up υ 12 (υ 10 7 * 8 + υ 10 8) (a / (Int.gcd u a : Int))) 13 (υ 10 7 * 8 + υ 10 8) (u / (Int.gcd u a : Int))) 10 8 (υ 10 8 + 1)) : fr rgE υ ω ∧ ω 10 8 = υ 10 8 + 1 ∧ uA ω (υ 10 7 * 8 + υ 10 8) ∧ ∀ k, k ≠ υ 10 7 * 8 + υ 10 8 → ω 12 k = υ 12 k ∧ ω 13 k = υ 13 k := by
  obtain ⟨g1, g2⟩ := gcd_pos (a := u) (b := a) (by omega)
  have d1 := div_bd (u := a) (g := (Int.gcd u a : Int)) (B := 999999) ⟨by omega, by omega⟩ g1
  have d2 := gcd_div (u := u) (g := (Int.gcd u a : Int)) hu.1 g1 g2
  subst e
  refine ⟨fr_up (fr_up (fr_up fr.rf (by simp [rgE])) (by simp [rgE])) (by simp [rgE]), by simp [up_if], ?_, fun k q => ?_⟩
  · unfold uA
    simp [up_if]
    omega
  · simp [up_if, q]
theorem t_Tp_readFraction {σ : eS} (h : RA σ) (hd : dgA (σ 11) (σ 10 3) (σ 10 6)) (hf0 : σ 10 4 = 0) : MtV shA M_Tp_readFraction [vr 10] σ (fun σ' => QJ σ σ' ∧ KA σ σ') := by
  refine Mt.of okM_Tp_readFraction (Nat.le_of_ble_eq_true rfl) (fun hk hg => ?_)
  have h0 := h.1
  have hq : sk (σ 11) (σ 10 3) (σ 10 6) = σ 10 6 := sk_0 (fun q => by have := hd.2; have := q.2; omega)
  have hP := PR_dig (r := σ 10 7) (k := σ 10 8) (w := σ 10 9) (ab := σ 12) (un := σ 13) hq hd.1 hd.2 rfl
  have ht := de_gt hd
  have ht2 := (de_sp (σ 11) (σ 10 3) (σ 10 6)).2.1 h0.2.2.2
  refine ok_aload_n 0 rfl rfl rfl (ok_callVI (M' := M_Tp_countDigits) (as := []) 1 rfl rfl ml_X10_79 (t_Tp_countDigits h0) rfl rfl (Nat.le_of_ble_eq_true rfl) ⟨Nat.le_of_ble_eq_true rfl, Nat.le_of_ble_eq_true rfl⟩ rfl (Nat.le_of_ble_eq_true rfl) (fun σ' z hz => ?_))
  rw [hz.1, hz.2]
  clear hz z σ'
  refine ok_bipush 2 rfl rfl (by decide) (by decide) (ok_icmp_le 3 21 rfl rfl rfl (fun h6 => ?_) (fun h6 => ?_))
  · refine ok_aload_n 10 rfl rfl rfl (ok_getI 11 rfl rfl fl_X10_34 rfl rfl (Or.inl rfl) (ok_bipush 12 rfl rfl (by decide) (by decide) (ok_icmp_eq 13 39 rfl rfl rfl (fun h27 => ?_) (fun h27 => ?_))))
    · refine ok_aload_n 18 rfl rfl rfl (ok_iconst 19 rfl rfl (by decide) (ok_aload_n 20 rfl rfl rfl (ok_getI 21 rfl rfl fl_X10_31 rfl rfl (Or.inl rfl) (ok_callVV (M' := M_Tp_fail) (as := [_, _]) 22 rfl rfl ml_X10_75 (s_Tp_fail) rfl rfl (Nat.le_of_ble_eq_true rfl) ⟨Nat.le_of_ble_eq_true rfl, Nat.le_of_ble_eq_true rfl⟩ rfl (Nat.le_of_ble_eq_true rfl) (fun σ' hz => ?_)))))
      rw [hz]
      clear hz σ'
      refine ok_goto 23 95 rfl rfl rfl (ok_vret 46 rfl rfl rfl ?_)
      refine ⟨rfl, QJ_D h (QD_f h0 _ _), Or.inr ⟨by simp [up_if], ?_, ?_⟩⟩
      · show (PA σ).1 = _; unfold PA; rw [hP, if_neg (by omega), if_pos (by omega)]; simp [up_if]
      · show (PA σ).2.1 = _; unfold PA; rw [hP, if_neg (by omega), if_pos (by omega)]; simp [up_if]
    · refine ok_aload_n 14 rfl rfl rfl (ok_getI 15 rfl rfl fl_X10_37 rfl rfl (Or.inl rfl) (ok_bipush 16 rfl rfl (by decide) (by decide) (ok_icmp_ne 17 51 rfl rfl rfl (fun h36 => ?_) (fun h36 => ?_))))
      · refine ok_aload_n 24 rfl rfl rfl (ok_getI 25 rfl rfl fl_X10_34 rfl rfl (Or.inl rfl) (ok_if_le 26 81 rfl rfl rfl (fun h55 => ?_) (fun h55 => ?_)))
        · obtain ⟨-, h1, h2, h3, h4, h5, h6, h7, h8, h9⟩ := id h
          have r7 : σ 10 7 ≤ 7 := by omega
          have f7 : σ 10 8 ≤ 7 := by omega
          have fw : 0 < σ 10 7 → σ 10 8 < σ 10 9 := fun q => by have := h9 q; omega
          rw [if_neg (by omega), if_neg (by omega), if_neg (by omega)] at hP
          have h6' : de (σ 11) (σ 10 3) (σ 10 6) - σ 10 6 ≤ 6 := by omega
          have vb := vaD_bd h6'
          obtain ⟨e, ee⟩ : ∃ e, e = de (σ 11) (σ 10 3) (σ 10 6) := ⟨_, rfl⟩
          obtain ⟨a, ea⟩ : ∃ a, a = vaD (σ 11) (σ 10 6) e := ⟨_, rfl⟩
          rw [← ee] at vb ht ht2 hP
          rw [← ea] at vb hP
          have q1 : QD σ (up σ 10 6 e) := ⟨fr_up fr.rf (by simp [rgD]), by rw [up_same]; omega, by rw [up_same]; omega⟩
          have c3 : (up σ 10 6 e) 10 3 = σ 10 3 := up_nk _ _ _ _ (by decide)
          have c6 : (up σ 10 6 e) 10 6 = e := up_same _ _ _ _
          have c11 : (up σ 10 6 e) 11 = σ 11 := up_fn _ _ _ (by decide)
          refine ok_aload_n 38 rfl rfl rfl (ok_callVI (M' := M_Tp_readNumber) (as := []) 39 rfl rfl ml_X10_83 (t_Tp_readNumber h0 h6') rfl rfl (Nat.le_of_ble_eq_true rfl) ⟨Nat.le_of_ble_eq_true rfl, Nat.le_of_ble_eq_true rfl⟩ rfl (Nat.le_of_ble_eq_true rfl) (fun σ' z hz => ?_))
          rw [hz.1, hz.2]
          clear hz z σ'
          rw [← ee, ← ea]
          refine ok_ist1 40 rfl rfl rfl (ok_aload_n 41 rfl rfl rfl (ok_iload_n 42 rfl rfl rfl (ok_aload_n 43 rfl rfl rfl (ok_callVI (M' := M_Tp_readDivisor) (as := []) 44 rfl rfl ml_X10_86 (t_Tp_readDivisor (QD_P h0 q1)) rfl rfl (Nat.le_of_ble_eq_true rfl) ⟨Nat.le_of_ble_eq_true rfl, Nat.le_of_ble_eq_true rfl⟩ rfl (Nat.le_of_ble_eq_true rfl) (fun υ y hy => ?_)))))
          have q2 := QD_tr q1 hy.1
          have hy2 : 1 ≤ y ∧ y ≤ 999999 := ⟨hy.2.1, hy.2.2.1⟩
          have hv := hy.2.2.2
          have ra := RA_D h q2
          have e7 : υ 10 7 = σ 10 7 := q2.1 10 7 (by simp [rgD])
          have e8 : υ 10 8 = σ 10 8 := q2.1 10 8 (by simp [rgD])
          have e9 : υ 10 9 = σ 10 9 := q2.1 10 9 (by simp [rgD])
          refine ok_callVV (M' := M_Tp_keepFraction) (as := [_, _]) 45 rfl rfl ml_X10_89 (t_Tp_keepFraction ⟨by omega, by omega⟩ ⟨by omega, by omega⟩ vb hy2) rfl rfl (Nat.le_of_ble_eq_true rfl) ⟨Nat.le_of_ble_eq_true rfl, Nat.le_of_ble_eq_true rfl⟩ rfl (Nat.le_of_ble_eq_true rfl) (fun ω hω => ?_)
          refine ok_vret 46 rfl rfl rfl ?_
          obtain ⟨k1, k2, k3, k4⟩ := kf_weak vb hy2 hω
          have x7 : ω 10 7 = σ 10 7 := by rw [k1 10 7 (by simp [rgE]), e7]
          have x9 : ω 10 9 = σ 10 9 := by rw [k1 10 9 (by simp [rgE]), e9]
          have x3 : ω 10 3 = υ 10 3 := k1 10 3 (by simp [rgE])
          have x6 : ω 10 6 = υ 10 6 := k1 10 6 (by simp [rgE])
          have x4 : ω 10 4 = υ 10 4 := k1 10 4 (by simp [rgE])
          have x5 : ω 10 5 = υ 10 5 := k1 10 5 (by simp [rgE])
          have x11 : ω 11 = υ 11 := by funext j; exact k1 11 j (by simp [rgE])
          refine ⟨rfl, ?_, ?_⟩
          · obtain ⟨t0, t1, t2, t3, t4, t5, t6, t7, t8, t9⟩ := ra
            have eu : ∀ k, uA υ k → uA ω k := fun k hk => by
              by_cases q : k = υ 10 7 * 8 + υ 10 8
              · rw [q]; exact k3
              · unfold uA; rw [(k4 k q).1, (k4 k q).2]; exact hk
            refine ⟨((q2.1.mono (fun c k w => by simp only [rgD, rgJ] at w ⊢; omega)).tr (k1.mono (fun c k w => by simp only [rgE, rgJ] at w ⊢; omega))), ⟨by rw [x3]; exact t0.1, by rw [x3]; exact t0.2.1, by rw [x6]; exact t0.2.2.1, by rw [x6, x3]; exact t0.2.2.2⟩, by omega, by omega, by omega, by omega, by omega, by omega, fun i j a b c d => eu _ (t7 i j a (by omega) c (by omega)), fun j a b c => ?_, fun q => by have := fw (by omega); omega⟩
            rw [x7, ← e7]
            by_cases q : j = υ 10 8
            · rw [q]; exact k3
            · exact eu _ (t8 j (by omega) b (by omega))
          · unfold QV dv0 dvB dve dvq at hv
            rw [c3, c6, c11] at hv
            rcases hv with ⟨v0, vz, vs⟩ | ⟨v0, v1, vz, v4, v5⟩ | ⟨v0, v1, v2, vz, v4, v5⟩ | ⟨v0, v1, v2, vz, vs⟩
            · have w6 : υ 10 6 = sk (σ 11) (σ 10 3) e := by rw [vs, up_same]
              have w := (sk_sp (σ 11) (σ 10 3) e).1
              refine Or.inl ⟨by rw [x4, vs, up2, up_nk _ _ _ _ (by decide)]; exact hf0, ?_, by omega, by rw [x5, vs, up2, up_nk _ _ _ _ (by decide)]⟩
              unfold PA
              rw [hP, if_neg v0, x11, x3, x6, x7, x9, k2, e8, w6]
              have y12 : ω 12 = uf (σ 12) (σ 10 7 * 8 + σ 10 8) (a / (Int.gcd 1 a : Int)) := by rw [hω, up_fn _ _ _ (by decide), up_fn _ _ _ (by decide), up_uf, vs, up2, up_fn _ _ _ (by decide), up_nk _ _ _ _ (by decide), up_nk _ _ _ _ (by decide), vz]
              have y13 : ω 13 = uf (σ 13) (σ 10 7 * 8 + σ 10 8) (1 / (Int.gcd 1 a : Int)) := by rw [hω, up_fn _ _ _ (by decide), up_uf, up_fn _ _ _ (by decide), vs, up2, up_fn _ _ _ (by decide), up_nk _ _ _ _ (by decide), up_nk _ _ _ _ (by decide), vz]
              have y3 : υ 10 3 = σ 10 3 := q2.1 10 3 (by simp [rgD])
              have y11 : υ 11 = σ 11 := by funext j; exact q2.1 11 j (by simp [rgD])
              rw [y12, y13, y3, y11]
            · refine Or.inr ⟨by rw [x4, v4]; decide, ?_, ?_⟩
              · unfold PA; rw [hP, if_pos (Classical.not_not.mp v0), if_pos v1, x4, v4]
              · unfold PA; rw [hP, if_pos (Classical.not_not.mp v0), if_pos v1, x5, v5]
            · refine Or.inr ⟨by rw [x4, v4]; decide, ?_, ?_⟩
              · unfold PA; rw [hP, if_pos (Classical.not_not.mp v0), if_neg v1, if_pos v2, x4, v4]
              · unfold PA; rw [hP, if_pos (Classical.not_not.mp v0), if_neg v1, if_pos v2, x5, v5]
            · have w6 : υ 10 6 = de (σ 11) (σ 10 3) (sk (σ 11) (σ 10 3) (sk (σ 11) (σ 10 3) e + 1)) := by rw [vs, up_same]
              have w1 := (sk_sp (σ 11) (σ 10 3) e).1
              have w2 := (sk_sp (σ 11) (σ 10 3) (sk (σ 11) (σ 10 3) e + 1)).1
              have w3 := (de_sp (σ 11) (σ 10 3) (sk (σ 11) (σ 10 3) (sk (σ 11) (σ 10 3) e + 1))).1
              refine Or.inl ⟨by rw [x4, vs, up2, up_nk _ _ _ _ (by decide)]; exact hf0, ?_, by omega, by rw [x5, vs, up2, up_nk _ _ _ _ (by decide)]⟩
              unfold PA
              rw [hP, if_pos (Classical.not_not.mp v0), if_neg v1, if_neg v2, x11, x3, x6, x7, x9, k2, e8, w6, ← vz]
              have y12 : ω 12 = uf (σ 12) (σ 10 7 * 8 + σ 10 8) (a / (Int.gcd y a : Int)) := by rw [hω, up_fn _ _ _ (by decide), up_fn _ _ _ (by decide), up_uf, vs, up2, up_fn _ _ _ (by decide), up_nk _ _ _ _ (by decide), up_nk _ _ _ _ (by decide)]
              have y13 : ω 13 = uf (σ 13) (σ 10 7 * 8 + σ 10 8) (y / (Int.gcd y a : Int)) := by rw [hω, up_fn _ _ _ (by decide), up_uf, up_fn _ _ _ (by decide), vs, up2, up_fn _ _ _ (by decide), up_nk _ _ _ _ (by decide), up_nk _ _ _ _ (by decide)]
              have y3 : υ 10 3 = σ 10 3 := q2.1 10 3 (by simp [rgD])
              have y11 : υ 11 = σ 11 := by funext j; exact q2.1 11 j (by simp [rgD])
              rw [y12, y13, y3, y11]
        · refine ok_aload_n 27 rfl rfl rfl (ok_getI 28 rfl rfl fl_X10_37 rfl rfl (Or.inl rfl) (ok_aload_n 29 rfl rfl rfl (ok_getI 30 rfl rfl fl_X10_40 rfl rfl (Or.inl rfl) (ok_icmp_ne 31 81 rfl rfl rfl (fun h66 => ?_) (fun h66 => ?_)))))
          · obtain ⟨-, h1, h2, h3, h4, h5, h6, h7, h8, h9⟩ := id h
            have r7 : σ 10 7 ≤ 7 := by omega
            have f7 : σ 10 8 ≤ 7 := by omega
            have fw : 0 < σ 10 7 → σ 10 8 < σ 10 9 := fun q => by have := h9 q; omega
            rw [if_neg (by omega), if_neg (by omega), if_neg (by omega)] at hP
            have h6' : de (σ 11) (σ 10 3) (σ 10 6) - σ 10 6 ≤ 6 := by omega
            have vb := vaD_bd h6'
            obtain ⟨e, ee⟩ : ∃ e, e = de (σ 11) (σ 10 3) (σ 10 6) := ⟨_, rfl⟩
            obtain ⟨a, ea⟩ : ∃ a, a = vaD (σ 11) (σ 10 6) e := ⟨_, rfl⟩
            rw [← ee] at vb ht ht2 hP
            rw [← ea] at vb hP
            have q1 : QD σ (up σ 10 6 e) := ⟨fr_up fr.rf (by simp [rgD]), by rw [up_same]; omega, by rw [up_same]; omega⟩
            have c3 : (up σ 10 6 e) 10 3 = σ 10 3 := up_nk _ _ _ _ (by decide)
            have c6 : (up σ 10 6 e) 10 6 = e := up_same _ _ _ _
            have c11 : (up σ 10 6 e) 11 = σ 11 := up_fn _ _ _ (by decide)
            refine ok_aload_n 38 rfl rfl rfl (ok_callVI (M' := M_Tp_readNumber) (as := []) 39 rfl rfl ml_X10_83 (t_Tp_readNumber h0 h6') rfl rfl (Nat.le_of_ble_eq_true rfl) ⟨Nat.le_of_ble_eq_true rfl, Nat.le_of_ble_eq_true rfl⟩ rfl (Nat.le_of_ble_eq_true rfl) (fun σ' z hz => ?_))
            rw [hz.1, hz.2]
            clear hz z σ'
            rw [← ee, ← ea]
            refine ok_ist1 40 rfl rfl rfl (ok_aload_n 41 rfl rfl rfl (ok_iload_n 42 rfl rfl rfl (ok_aload_n 43 rfl rfl rfl (ok_callVI (M' := M_Tp_readDivisor) (as := []) 44 rfl rfl ml_X10_86 (t_Tp_readDivisor (QD_P h0 q1)) rfl rfl (Nat.le_of_ble_eq_true rfl) ⟨Nat.le_of_ble_eq_true rfl, Nat.le_of_ble_eq_true rfl⟩ rfl (Nat.le_of_ble_eq_true rfl) (fun υ y hy => ?_)))))
            have q2 := QD_tr q1 hy.1
            have hy2 : 1 ≤ y ∧ y ≤ 999999 := ⟨hy.2.1, hy.2.2.1⟩
            have hv := hy.2.2.2
            have ra := RA_D h q2
            have e7 : υ 10 7 = σ 10 7 := q2.1 10 7 (by simp [rgD])
            have e8 : υ 10 8 = σ 10 8 := q2.1 10 8 (by simp [rgD])
            have e9 : υ 10 9 = σ 10 9 := q2.1 10 9 (by simp [rgD])
            refine ok_callVV (M' := M_Tp_keepFraction) (as := [_, _]) 45 rfl rfl ml_X10_89 (t_Tp_keepFraction ⟨by omega, by omega⟩ ⟨by omega, by omega⟩ vb hy2) rfl rfl (Nat.le_of_ble_eq_true rfl) ⟨Nat.le_of_ble_eq_true rfl, Nat.le_of_ble_eq_true rfl⟩ rfl (Nat.le_of_ble_eq_true rfl) (fun ω hω => ?_)
            refine ok_vret 46 rfl rfl rfl ?_
            obtain ⟨k1, k2, k3, k4⟩ := kf_weak vb hy2 hω
            have x7 : ω 10 7 = σ 10 7 := by rw [k1 10 7 (by simp [rgE]), e7]
            have x9 : ω 10 9 = σ 10 9 := by rw [k1 10 9 (by simp [rgE]), e9]
            have x3 : ω 10 3 = υ 10 3 := k1 10 3 (by simp [rgE])
            have x6 : ω 10 6 = υ 10 6 := k1 10 6 (by simp [rgE])
            have x4 : ω 10 4 = υ 10 4 := k1 10 4 (by simp [rgE])
            have x5 : ω 10 5 = υ 10 5 := k1 10 5 (by simp [rgE])
            have x11 : ω 11 = υ 11 := by funext j; exact k1 11 j (by simp [rgE])
            refine ⟨rfl, ?_, ?_⟩
            · obtain ⟨t0, t1, t2, t3, t4, t5, t6, t7, t8, t9⟩ := ra
              have eu : ∀ k, uA υ k → uA ω k := fun k hk => by
                by_cases q : k = υ 10 7 * 8 + υ 10 8
                · rw [q]; exact k3
                · unfold uA; rw [(k4 k q).1, (k4 k q).2]; exact hk
              refine ⟨((q2.1.mono (fun c k w => by simp only [rgD, rgJ] at w ⊢; omega)).tr (k1.mono (fun c k w => by simp only [rgE, rgJ] at w ⊢; omega))), ⟨by rw [x3]; exact t0.1, by rw [x3]; exact t0.2.1, by rw [x6]; exact t0.2.2.1, by rw [x6, x3]; exact t0.2.2.2⟩, by omega, by omega, by omega, by omega, by omega, by omega, fun i j a b c d => eu _ (t7 i j a (by omega) c (by omega)), fun j a b c => ?_, fun q => by have := fw (by omega); omega⟩
              rw [x7, ← e7]
              by_cases q : j = υ 10 8
              · rw [q]; exact k3
              · exact eu _ (t8 j (by omega) b (by omega))
            · unfold QV dv0 dvB dve dvq at hv
              rw [c3, c6, c11] at hv
              rcases hv with ⟨v0, vz, vs⟩ | ⟨v0, v1, vz, v4, v5⟩ | ⟨v0, v1, v2, vz, v4, v5⟩ | ⟨v0, v1, v2, vz, vs⟩
              · have w6 : υ 10 6 = sk (σ 11) (σ 10 3) e := by rw [vs, up_same]
                have w := (sk_sp (σ 11) (σ 10 3) e).1
                refine Or.inl ⟨by rw [x4, vs, up2, up_nk _ _ _ _ (by decide)]; exact hf0, ?_, by omega, by rw [x5, vs, up2, up_nk _ _ _ _ (by decide)]⟩
                unfold PA
                rw [hP, if_neg v0, x11, x3, x6, x7, x9, k2, e8, w6]
                have y12 : ω 12 = uf (σ 12) (σ 10 7 * 8 + σ 10 8) (a / (Int.gcd 1 a : Int)) := by rw [hω, up_fn _ _ _ (by decide), up_fn _ _ _ (by decide), up_uf, vs, up2, up_fn _ _ _ (by decide), up_nk _ _ _ _ (by decide), up_nk _ _ _ _ (by decide), vz]
                have y13 : ω 13 = uf (σ 13) (σ 10 7 * 8 + σ 10 8) (1 / (Int.gcd 1 a : Int)) := by rw [hω, up_fn _ _ _ (by decide), up_uf, up_fn _ _ _ (by decide), vs, up2, up_fn _ _ _ (by decide), up_nk _ _ _ _ (by decide), up_nk _ _ _ _ (by decide), vz]
                have y3 : υ 10 3 = σ 10 3 := q2.1 10 3 (by simp [rgD])
                have y11 : υ 11 = σ 11 := by funext j; exact q2.1 11 j (by simp [rgD])
                rw [y12, y13, y3, y11]
              · refine Or.inr ⟨by rw [x4, v4]; decide, ?_, ?_⟩
                · unfold PA; rw [hP, if_pos (Classical.not_not.mp v0), if_pos v1, x4, v4]
                · unfold PA; rw [hP, if_pos (Classical.not_not.mp v0), if_pos v1, x5, v5]
              · refine Or.inr ⟨by rw [x4, v4]; decide, ?_, ?_⟩
                · unfold PA; rw [hP, if_pos (Classical.not_not.mp v0), if_neg v1, if_pos v2, x4, v4]
                · unfold PA; rw [hP, if_pos (Classical.not_not.mp v0), if_neg v1, if_pos v2, x5, v5]
              · have w6 : υ 10 6 = de (σ 11) (σ 10 3) (sk (σ 11) (σ 10 3) (sk (σ 11) (σ 10 3) e + 1)) := by rw [vs, up_same]
                have w1 := (sk_sp (σ 11) (σ 10 3) e).1
                have w2 := (sk_sp (σ 11) (σ 10 3) (sk (σ 11) (σ 10 3) e + 1)).1
                have w3 := (de_sp (σ 11) (σ 10 3) (sk (σ 11) (σ 10 3) (sk (σ 11) (σ 10 3) e + 1))).1
                refine Or.inl ⟨by rw [x4, vs, up2, up_nk _ _ _ _ (by decide)]; exact hf0, ?_, by omega, by rw [x5, vs, up2, up_nk _ _ _ _ (by decide)]⟩
                unfold PA
                rw [hP, if_pos (Classical.not_not.mp v0), if_neg v1, if_neg v2, x11, x3, x6, x7, x9, k2, e8, w6, ← vz]
                have y12 : ω 12 = uf (σ 12) (σ 10 7 * 8 + σ 10 8) (a / (Int.gcd y a : Int)) := by rw [hω, up_fn _ _ _ (by decide), up_fn _ _ _ (by decide), up_uf, vs, up2, up_fn _ _ _ (by decide), up_nk _ _ _ _ (by decide), up_nk _ _ _ _ (by decide)]
                have y13 : ω 13 = uf (σ 13) (σ 10 7 * 8 + σ 10 8) (y / (Int.gcd y a : Int)) := by rw [hω, up_fn _ _ _ (by decide), up_uf, up_fn _ _ _ (by decide), vs, up2, up_fn _ _ _ (by decide), up_nk _ _ _ _ (by decide), up_nk _ _ _ _ (by decide)]
                have y3 : υ 10 3 = σ 10 3 := q2.1 10 3 (by simp [rgD])
                have y11 : υ 11 = σ 11 := by funext j; exact q2.1 11 j (by simp [rgD])
                rw [y12, y13, y3, y11]
          · refine ok_aload_n 32 rfl rfl rfl (ok_iconst 33 rfl rfl (by decide) (ok_aload_n 34 rfl rfl rfl (ok_getI 35 rfl rfl fl_X10_31 rfl rfl (Or.inl rfl) (ok_callVV (M' := M_Tp_fail) (as := [_, _]) 36 rfl rfl ml_X10_75 (s_Tp_fail) rfl rfl (Nat.le_of_ble_eq_true rfl) ⟨Nat.le_of_ble_eq_true rfl, Nat.le_of_ble_eq_true rfl⟩ rfl (Nat.le_of_ble_eq_true rfl) (fun σ' hz => ?_)))))
            rw [hz]
            clear hz σ'
            refine ok_goto 37 95 rfl rfl rfl (ok_vret 46 rfl rfl rfl ?_)
            refine ⟨rfl, QJ_D h (QD_f h0 _ _), Or.inr ⟨by simp [up_if], ?_, ?_⟩⟩
            · show (PA σ).1 = _; unfold PA; rw [hP, if_neg (by omega), if_neg (by omega), if_pos (by omega)]; simp [up_if]
            · show (PA σ).2.1 = _; unfold PA; rw [hP, if_neg (by omega), if_neg (by omega), if_pos (by omega)]; simp [up_if]
      · refine ok_aload_n 18 rfl rfl rfl (ok_iconst 19 rfl rfl (by decide) (ok_aload_n 20 rfl rfl rfl (ok_getI 21 rfl rfl fl_X10_31 rfl rfl (Or.inl rfl) (ok_callVV (M' := M_Tp_fail) (as := [_, _]) 22 rfl rfl ml_X10_75 (s_Tp_fail) rfl rfl (Nat.le_of_ble_eq_true rfl) ⟨Nat.le_of_ble_eq_true rfl, Nat.le_of_ble_eq_true rfl⟩ rfl (Nat.le_of_ble_eq_true rfl) (fun σ' hz => ?_)))))
        rw [hz]
        clear hz σ'
        refine ok_goto 23 95 rfl rfl rfl (ok_vret 46 rfl rfl rfl ?_)
        refine ⟨rfl, QJ_D h (QD_f h0 _ _), Or.inr ⟨by simp [up_if], ?_, ?_⟩⟩
        · show (PA σ).1 = _; unfold PA; rw [hP, if_neg (by omega), if_pos (by omega)]; simp [up_if]
        · show (PA σ).2.1 = _; unfold PA; rw [hP, if_neg (by omega), if_pos (by omega)]; simp [up_if]
  · refine ok_aload_n 4 rfl rfl rfl (ok_iconst 5 rfl rfl (by decide) (ok_aload_n 6 rfl rfl rfl (ok_getI 7 rfl rfl fl_X10_31 rfl rfl (Or.inl rfl) (ok_callVV (M' := M_Tp_fail) (as := [_, _]) 8 rfl rfl ml_X10_75 (s_Tp_fail) rfl rfl (Nat.le_of_ble_eq_true rfl) ⟨Nat.le_of_ble_eq_true rfl, Nat.le_of_ble_eq_true rfl⟩ rfl (Nat.le_of_ble_eq_true rfl) (fun σ' hz => ?_)))))
    rw [hz]
    clear hz σ'
    refine ok_goto 9 95 rfl rfl rfl (ok_vret 46 rfl rfl rfl ?_)
    refine ⟨rfl, QJ_D h (QD_f h0 _ _), Or.inr ⟨by simp [up_if], ?_, ?_⟩⟩
    · show (PA σ).1 = _; unfold PA; rw [hP, if_pos (by omega)]; simp [up_if]
    · show (PA σ).2.1 = _; unfold PA; rw [hP, if_pos (by omega)]; simp [up_if]
theorem t_Tp_closeRow {σ : eS} (h : RA σ) (hat : σ 10 6 < σ 10 3) (hb : σ 11 (σ 10 6) = 59) (hf0 : σ 10 4 = 0) : MtV shA M_Tp_closeRow [vr 10] σ (fun σ' => QJ σ σ' ∧ KA σ σ') := by
  refine Mt.of okM_Tp_closeRow (Nat.le_of_ble_eq_true rfl) (fun hk hg => ?_)
  obtain ⟨h0, h1, h2, h3, h4, h5, h6, h7, h8, h9⟩ := id h
  obtain ⟨p1, p2, p3, p4⟩ := id h0
  have hq : sk (σ 11) (σ 10 3) (σ 10 6) = σ 10 6 := sk_0 (fun q => by have := q.2; omega)
  have hP := PR_59 (r := σ 10 7) (k := σ 10 8) (w := σ 10 9) (ab := σ 12) (un := σ 13) hq hat hb
  refine ok_aload_n 0 rfl rfl rfl (ok_getI 1 rfl rfl fl_X10_34 rfl rfl (Or.inl rfl) (ok_bipush 2 rfl rfl (by decide) (by decide) (ok_icmp_ne 3 21 rfl rfl rfl (fun h6 => ?_) (fun h6 => ?_))))
  · refine ok_aload_n 10 rfl rfl rfl (ok_getI 11 rfl rfl fl_X10_34 rfl rfl (Or.inl rfl) (ok_if_le 12 51 rfl rfl rfl (fun h25 => ?_) (fun h25 => ?_)))
    · rw [if_neg (by omega), if_neg (by omega)] at hP
      have fin : ∀ W : Int, W = (if σ 10 7 = 0 then σ 10 8 else σ 10 9) → ∀ τ : eS, fr (fun c k => c = 10 ∧ 6 ≤ k ∧ k ≤ 9) σ τ → τ 10 6 = σ 10 6 + 1 → τ 10 7 = σ 10 7 + 1 → τ 10 8 = 0 → τ 10 9 = W → QJ σ τ ∧ KA σ τ := fun W hW τ f t6 t7 t8 t9 => by
        have g3 : τ 10 3 = σ 10 3 := f 10 3 (by omega)
        have g4 : τ 10 4 = σ 10 4 := f 10 4 (by omega)
        have g5 : τ 10 5 = σ 10 5 := f 10 5 (by omega)
        have g11 : τ 11 = σ 11 := by funext j; exact f 11 j (by omega)
        have g12 : τ 12 = σ 12 := by funext j; exact f 12 j (by omega)
        have g13 : τ 13 = σ 13 := by funext j; exact f 13 j (by omega)
        have eu : ∀ k, uA τ k ↔ uA σ k := fun k => by unfold uA; rw [g12, g13]
        have hWb : 0 ≤ W ∧ W ≤ 8 := by rw [hW]; split <;> omega
        refine ⟨⟨f.mono (fun c k w => by simp only [rgJ]; omega), ⟨by omega, by omega, by omega, by omega⟩, by omega, by omega, by omega, by omega, by omega, by omega, fun i j a b c d => ?_, fun j a b c => by omega, fun q => by omega⟩, Or.inl ⟨by omega, ?_, by omega, g5⟩⟩
        · rw [eu]
          rw [t7] at b
          rw [t9, hW] at d
          by_cases z : σ 10 7 = 0
          · rw [if_pos z] at d
            have := h8 j (by omega) c d
            rw [show i = σ 10 7 by omega]
            exact this
          · rw [if_neg z] at d
            rcases (by omega : i < σ 10 7 ∨ i = σ 10 7) with w | w
            · exact h7 i j a w c d
            · rw [w]; exact h8 j (by omega) c (by omega)
        · unfold PA
          rw [hP, g11, g3, t6, t7, t8, t9, g12, g13, hW]
      refine ok_aload_n 24 rfl rfl rfl (ok_getI 25 rfl rfl fl_X10_34 rfl rfl (Or.inl rfl) (ok_if_ne 26 66 rfl rfl rfl (fun h55 => ?_) (fun h55 => ?_)))
      · refine ok_aload_n 31 rfl rfl rfl (ok_dup 32 rfl rfl rfl (ok_getI 33 rfl rfl fl_X10_34 rfl rfl (Or.inl rfl) (ok_iconst 34 rfl rfl (by decide) (ok_iadd 35 rfl rfl (by first | omega | (simp [up_if]; omega) | (simp [up_if] at *; omega)) (ok_putI 36 rfl rfl fl_X10_34 rfl rfl rfl rfl (ok_aload_n 37 rfl rfl rfl (ok_iconst 38 rfl rfl (by decide) (ok_putI 39 rfl rfl fl_X10_37 rfl rfl rfl rfl (ok_aload_n 40 rfl rfl rfl (ok_dup 41 rfl rfl rfl (ok_getI 42 rfl rfl fl_X10_31 rfl rfl (Or.inl rfl) (ok_iconst 43 rfl rfl (by decide) (ok_iadd 44 rfl rfl (by first | omega | (simp [up_if]; omega) | (simp [up_if] at *; omega)) (ok_putI 45 rfl rfl fl_X10_31 rfl rfl rfl rfl (ok_vret 46 rfl rfl rfl ?_)))))))))))))))
        refine ⟨rfl, fin _ ?_ _ (fr.mono (P := fun c k => c = 10 ∧ 6 ≤ k ∧ k ≤ 9) ?_ (fun c k w => w)) ?_ ?_ ?_ rfl⟩
        · simp [up_if]; try omega
        · first | exact fr_up (fr_up (fr_up (fr_up fr.rf (by simp)) (by simp)) (by simp)) (by simp) | exact fr_up (fr_up (fr_up fr.rf (by simp)) (by simp)) (by simp)
        · simp [up_if]
        · simp [up_if]
        · simp [up_if]
      · refine ok_aload_n 27 rfl rfl rfl (ok_aload_n 28 rfl rfl rfl (ok_getI 29 rfl rfl fl_X10_37 rfl rfl (Or.inl rfl) (ok_putI 30 rfl rfl fl_X10_40 rfl rfl rfl rfl (ok_aload_n 31 rfl rfl rfl (ok_dup 32 rfl rfl rfl (ok_getI 33 rfl rfl fl_X10_34 rfl rfl (Or.inl rfl) (ok_iconst 34 rfl rfl (by decide) (ok_iadd 35 rfl rfl (by first | omega | (simp [up_if]; omega) | (simp [up_if] at *; omega)) (ok_putI 36 rfl rfl fl_X10_34 rfl rfl rfl rfl (ok_aload_n 37 rfl rfl rfl (ok_iconst 38 rfl rfl (by decide) (ok_putI 39 rfl rfl fl_X10_37 rfl rfl rfl rfl (ok_aload_n 40 rfl rfl rfl (ok_dup 41 rfl rfl rfl (ok_getI 42 rfl rfl fl_X10_31 rfl rfl (Or.inl rfl) (ok_iconst 43 rfl rfl (by decide) (ok_iadd 44 rfl rfl (by first | omega | (simp [up_if]; omega) | (simp [up_if] at *; omega)) (ok_putI 45 rfl rfl fl_X10_31 rfl rfl rfl rfl (ok_vret 46 rfl rfl rfl ?_)))))))))))))))))))
        refine ⟨rfl, fin _ ?_ _ (fr.mono (P := fun c k => c = 10 ∧ 6 ≤ k ∧ k ≤ 9) ?_ (fun c k w => w)) ?_ ?_ ?_ rfl⟩
        · simp [up_if]; try omega
        · first | exact fr_up (fr_up (fr_up (fr_up fr.rf (by simp)) (by simp)) (by simp)) (by simp) | exact fr_up (fr_up (fr_up fr.rf (by simp)) (by simp)) (by simp)
        · simp [up_if]
        · simp [up_if]
        · simp [up_if]
    · refine ok_aload_n 13 rfl rfl rfl (ok_getI 14 rfl rfl fl_X10_37 rfl rfl (Or.inl rfl) (ok_aload_n 15 rfl rfl rfl (ok_getI 16 rfl rfl fl_X10_40 rfl rfl (Or.inl rfl) (ok_icmp_eq 17 51 rfl rfl rfl (fun h36 => ?_) (fun h36 => ?_)))))
      · rw [if_neg (by omega), if_neg (by omega)] at hP
        have fin : ∀ W : Int, W = (if σ 10 7 = 0 then σ 10 8 else σ 10 9) → ∀ τ : eS, fr (fun c k => c = 10 ∧ 6 ≤ k ∧ k ≤ 9) σ τ → τ 10 6 = σ 10 6 + 1 → τ 10 7 = σ 10 7 + 1 → τ 10 8 = 0 → τ 10 9 = W → QJ σ τ ∧ KA σ τ := fun W hW τ f t6 t7 t8 t9 => by
          have g3 : τ 10 3 = σ 10 3 := f 10 3 (by omega)
          have g4 : τ 10 4 = σ 10 4 := f 10 4 (by omega)
          have g5 : τ 10 5 = σ 10 5 := f 10 5 (by omega)
          have g11 : τ 11 = σ 11 := by funext j; exact f 11 j (by omega)
          have g12 : τ 12 = σ 12 := by funext j; exact f 12 j (by omega)
          have g13 : τ 13 = σ 13 := by funext j; exact f 13 j (by omega)
          have eu : ∀ k, uA τ k ↔ uA σ k := fun k => by unfold uA; rw [g12, g13]
          have hWb : 0 ≤ W ∧ W ≤ 8 := by rw [hW]; split <;> omega
          refine ⟨⟨f.mono (fun c k w => by simp only [rgJ]; omega), ⟨by omega, by omega, by omega, by omega⟩, by omega, by omega, by omega, by omega, by omega, by omega, fun i j a b c d => ?_, fun j a b c => by omega, fun q => by omega⟩, Or.inl ⟨by omega, ?_, by omega, g5⟩⟩
          · rw [eu]
            rw [t7] at b
            rw [t9, hW] at d
            by_cases z : σ 10 7 = 0
            · rw [if_pos z] at d
              have := h8 j (by omega) c d
              rw [show i = σ 10 7 by omega]
              exact this
            · rw [if_neg z] at d
              rcases (by omega : i < σ 10 7 ∨ i = σ 10 7) with w | w
              · exact h7 i j a w c d
              · rw [w]; exact h8 j (by omega) c (by omega)
          · unfold PA
            rw [hP, g11, g3, t6, t7, t8, t9, g12, g13, hW]
        refine ok_aload_n 24 rfl rfl rfl (ok_getI 25 rfl rfl fl_X10_34 rfl rfl (Or.inl rfl) (ok_if_ne 26 66 rfl rfl rfl (fun h55 => ?_) (fun h55 => ?_)))
        · refine ok_aload_n 31 rfl rfl rfl (ok_dup 32 rfl rfl rfl (ok_getI 33 rfl rfl fl_X10_34 rfl rfl (Or.inl rfl) (ok_iconst 34 rfl rfl (by decide) (ok_iadd 35 rfl rfl (by first | omega | (simp [up_if]; omega) | (simp [up_if] at *; omega)) (ok_putI 36 rfl rfl fl_X10_34 rfl rfl rfl rfl (ok_aload_n 37 rfl rfl rfl (ok_iconst 38 rfl rfl (by decide) (ok_putI 39 rfl rfl fl_X10_37 rfl rfl rfl rfl (ok_aload_n 40 rfl rfl rfl (ok_dup 41 rfl rfl rfl (ok_getI 42 rfl rfl fl_X10_31 rfl rfl (Or.inl rfl) (ok_iconst 43 rfl rfl (by decide) (ok_iadd 44 rfl rfl (by first | omega | (simp [up_if]; omega) | (simp [up_if] at *; omega)) (ok_putI 45 rfl rfl fl_X10_31 rfl rfl rfl rfl (ok_vret 46 rfl rfl rfl ?_)))))))))))))))
          refine ⟨rfl, fin _ ?_ _ (fr.mono (P := fun c k => c = 10 ∧ 6 ≤ k ∧ k ≤ 9) ?_ (fun c k w => w)) ?_ ?_ ?_ rfl⟩
          · simp [up_if]; try omega
          · first | exact fr_up (fr_up (fr_up (fr_up fr.rf (by simp)) (by simp)) (by simp)) (by simp) | exact fr_up (fr_up (fr_up fr.rf (by simp)) (by simp)) (by simp)
          · simp [up_if]
          · simp [up_if]
          · simp [up_if]
        · refine ok_aload_n 27 rfl rfl rfl (ok_aload_n 28 rfl rfl rfl (ok_getI 29 rfl rfl fl_X10_37 rfl rfl (Or.inl rfl) (ok_putI 30 rfl rfl fl_X10_40 rfl rfl rfl rfl (ok_aload_n 31 rfl rfl rfl (ok_dup 32 rfl rfl rfl (ok_getI 33 rfl rfl fl_X10_34 rfl rfl (Or.inl rfl) (ok_iconst 34 rfl rfl (by decide) (ok_iadd 35 rfl rfl (by first | omega | (simp [up_if]; omega) | (simp [up_if] at *; omega)) (ok_putI 36 rfl rfl fl_X10_34 rfl rfl rfl rfl (ok_aload_n 37 rfl rfl rfl (ok_iconst 38 rfl rfl (by decide) (ok_putI 39 rfl rfl fl_X10_37 rfl rfl rfl rfl (ok_aload_n 40 rfl rfl rfl (ok_dup 41 rfl rfl rfl (ok_getI 42 rfl rfl fl_X10_31 rfl rfl (Or.inl rfl) (ok_iconst 43 rfl rfl (by decide) (ok_iadd 44 rfl rfl (by first | omega | (simp [up_if]; omega) | (simp [up_if] at *; omega)) (ok_putI 45 rfl rfl fl_X10_31 rfl rfl rfl rfl (ok_vret 46 rfl rfl rfl ?_)))))))))))))))))))
          refine ⟨rfl, fin _ ?_ _ (fr.mono (P := fun c k => c = 10 ∧ 6 ≤ k ∧ k ≤ 9) ?_ (fun c k w => w)) ?_ ?_ ?_ rfl⟩
          · simp [up_if]; try omega
          · first | exact fr_up (fr_up (fr_up (fr_up fr.rf (by simp)) (by simp)) (by simp)) (by simp) | exact fr_up (fr_up (fr_up fr.rf (by simp)) (by simp)) (by simp)
          · simp [up_if]
          · simp [up_if]
          · simp [up_if]
      · refine ok_aload_n 18 rfl rfl rfl (ok_iconst 19 rfl rfl (by decide) (ok_aload_n 20 rfl rfl rfl (ok_getI 21 rfl rfl fl_X10_31 rfl rfl (Or.inl rfl) (ok_callVV (M' := M_Tp_fail) (as := [_, _]) 22 rfl rfl ml_X10_75 (s_Tp_fail) rfl rfl (Nat.le_of_ble_eq_true rfl) ⟨Nat.le_of_ble_eq_true rfl, Nat.le_of_ble_eq_true rfl⟩ rfl (Nat.le_of_ble_eq_true rfl) (fun σ' hz => ?_)))))
        rw [hz]
        clear hz σ'
        refine ok_goto 23 91 rfl rfl rfl (ok_vret 46 rfl rfl rfl ?_)
        refine ⟨rfl, QJ_D h (QD_f h0 _ _), Or.inr ⟨by simp [up_if], ?_, ?_⟩⟩
        · show (PA σ).1 = _; unfold PA; rw [hP, if_neg (by omega), if_pos (by omega)]; simp [up_if]
        · show (PA σ).2.1 = _; unfold PA; rw [hP, if_neg (by omega), if_pos (by omega)]; simp [up_if]
  · refine ok_aload_n 4 rfl rfl rfl (ok_iconst 5 rfl rfl (by decide) (ok_aload_n 6 rfl rfl rfl (ok_getI 7 rfl rfl fl_X10_31 rfl rfl (Or.inl rfl) (ok_callVV (M' := M_Tp_fail) (as := [_, _]) 8 rfl rfl ml_X10_75 (s_Tp_fail) rfl rfl (Nat.le_of_ble_eq_true rfl) ⟨Nat.le_of_ble_eq_true rfl, Nat.le_of_ble_eq_true rfl⟩ rfl (Nat.le_of_ble_eq_true rfl) (fun σ' hz => ?_)))))
    rw [hz]
    clear hz σ'
    refine ok_goto 9 91 rfl rfl rfl (ok_vret 46 rfl rfl rfl ?_)
    refine ⟨rfl, QJ_D h (QD_f h0 _ _), Or.inr ⟨by simp [up_if], ?_, ?_⟩⟩
    · show (PA σ).1 = _; unfold PA; rw [hP, if_pos (by omega)]; simp [up_if]
    · show (PA σ).2.1 = _; unfold PA; rw [hP, if_pos (by omega)]; simp [up_if]
theorem PA_bl {σ : eS} (hb : blA (σ 11) (σ 10 3) (σ 10 6)) : PA (up σ 10 6 (σ 10 6 + 1)) = PA σ := by
  unfold PA
  rw [up_same, up_fn _ _ _ (show (11 : Nat) ≠ 10 by decide), up_fn _ _ _ (show (12 : Nat) ≠ 10 by decide), up_fn _ _ _ (show (13 : Nat) ≠ 10 by decide), up_nk _ _ _ _ (by decide : (3 : Int) ≠ 6), up_nk _ _ _ _ (by decide : (7 : Int) ≠ 6), up_nk _ _ _ _ (by decide : (8 : Int) ≠ 6), up_nk _ _ _ _ (by decide : (9 : Int) ≠ 6)]
  refine (PR_sk ?_).symm
  exact sk_mid (by omega) (fun i a b => by rw [show i = σ 10 6 by omega]; exact hb)
theorem t_Tp_readPiece {σ : eS} (h : RA σ) (hat : σ 10 6 < σ 10 3) (hf0 : σ 10 4 = 0) : MtV shA M_Tp_readPiece [vr 10] σ (fun σ' => QJ σ σ' ∧ KA σ σ') := by
  refine Mt.of okM_Tp_readPiece (Nat.le_of_ble_eq_true rfl) (fun hk hg => ?_)
  have h0 := h.1
  obtain ⟨p1, p2, p3, p4⟩ := id h0
  refine ok_aload_n 0 rfl rfl rfl (ok_aload_n 1 rfl rfl rfl (ok_getI 2 rfl rfl fl_X10_31 rfl rfl (Or.inl rfl) (ok_callVI (M' := M_Tp_isBlank) (as := [_]) 3 rfl rfl ml_X10_58 (s_Tp_isBlank ⟨p1, p2⟩ p3) rfl rfl (Nat.le_of_ble_eq_true rfl) ⟨Nat.le_of_ble_eq_true rfl, Nat.le_of_ble_eq_true rfl⟩ rfl (Nat.le_of_ble_eq_true rfl) (fun σ' z1 a1 => ?_))))
  obtain ⟨hs_, a1⟩ := a1
  rw [hs_]; clear hs_ σ'
  refine ok_if_eq 4 24 rfl rfl rfl (fun h8 => ?_) (fun h8 => ?_)
  · refine ok_aload_n 12 rfl rfl rfl (ok_aload_n 13 rfl rfl rfl (ok_getI 14 rfl rfl fl_X10_31 rfl rfl (Or.inl rfl) (ok_bipush 15 rfl rfl (by decide) (by decide) (ok_callVI (M' := M_Tp_isSign) (as := [_, _]) 16 rfl rfl ml_X10_62 (s_Tp_isSign ⟨p1, p2⟩ p3) rfl rfl (Nat.le_of_ble_eq_true rfl) ⟨Nat.le_of_ble_eq_true rfl, Nat.le_of_ble_eq_true rfl⟩ rfl (Nat.le_of_ble_eq_true rfl) (fun σ' z2 a2 => ?_)))))
    obtain ⟨hs_, a2⟩ := a2
    rw [hs_]; clear hs_ σ'
    refine ok_if_eq 17 44 rfl rfl rfl (fun h34 => ?_) (fun h34 => ?_)
    · refine ok_aload_n 21 rfl rfl rfl (ok_aload_n 22 rfl rfl rfl (ok_getI 23 rfl rfl fl_X10_31 rfl rfl (Or.inl rfl) (ok_callVI (M' := M_Tp_isDigit) (as := [_]) 24 rfl rfl ml_X10_69 (s_Tp_isDigit ⟨p1, p2⟩ p3) rfl rfl (Nat.le_of_ble_eq_true rfl) ⟨Nat.le_of_ble_eq_true rfl, Nat.le_of_ble_eq_true rfl⟩ rfl (Nat.le_of_ble_eq_true rfl) (fun σ' z3 a3 => ?_))))
      obtain ⟨hs_, a3⟩ := a3
      rw [hs_]; clear hs_ σ'
      refine ok_if_eq 25 62 rfl rfl rfl (fun h52 => ?_) (fun h52 => ?_)
      · refine ok_aload_n 29 rfl rfl rfl (ok_iconst 30 rfl rfl (by decide) (ok_aload_n 31 rfl rfl rfl (ok_getI 32 rfl rfl fl_X10_31 rfl rfl (Or.inl rfl) (ok_callVV (M' := M_Tp_fail) (as := [_, _]) 33 rfl rfl ml_X10_75 (s_Tp_fail) rfl rfl (Nat.le_of_ble_eq_true rfl) ⟨Nat.le_of_ble_eq_true rfl, Nat.le_of_ble_eq_true rfl⟩ rfl (Nat.le_of_ble_eq_true rfl) (fun σ' hz => ?_)))))
        rw [hz]
        clear hz σ'
        refine ok_vret 34 rfl rfl rfl ?_
        have hq : sk (σ 11) (σ 10 3) (σ 10 6) = σ 10 6 := sk_0 (fun q => by unfold blA at q; omega)
        have hP := PR_bad (r := σ 10 7) (k := σ 10 8) (w := σ 10 9) (ab := σ 12) (un := σ 13) hq hat (by omega) (by omega)
        refine ⟨rfl, QJ_D h (QD_f h0 _ _), Or.inr ⟨by simp [up_if], ?_, ?_⟩⟩
        · unfold PA; rw [hP]; simp [up_if]
        · unfold PA; rw [hP]; simp [up_if]
      · refine ok_aload_n 26 rfl rfl rfl (ok_callVV (M' := M_Tp_readFraction) (as := []) 27 rfl rfl ml_X10_72 (t_Tp_readFraction h ⟨by omega, by omega, by omega⟩ hf0) rfl rfl (Nat.le_of_ble_eq_true rfl) ⟨Nat.le_of_ble_eq_true rfl, Nat.le_of_ble_eq_true rfl⟩ rfl (Nat.le_of_ble_eq_true rfl) (fun τ hz => ?_))
        refine ok_goto 28 71 rfl rfl rfl (ok_vret 34 rfl rfl rfl ?_)
        exact ⟨rfl, hz⟩
    · refine ok_aload_n 18 rfl rfl rfl (ok_callVV (M' := M_Tp_closeRow) (as := []) 19 rfl rfl ml_X10_66 (t_Tp_closeRow h hat (by omega) hf0) rfl rfl (Nat.le_of_ble_eq_true rfl) ⟨Nat.le_of_ble_eq_true rfl, Nat.le_of_ble_eq_true rfl⟩ rfl (Nat.le_of_ble_eq_true rfl) (fun τ hz => ?_))
      refine ok_goto 20 71 rfl rfl rfl (ok_vret 34 rfl rfl rfl ?_)
      exact ⟨rfl, hz⟩
  · refine ok_aload_n 5 rfl rfl rfl (ok_dup 6 rfl rfl rfl (ok_getI 7 rfl rfl fl_X10_31 rfl rfl (Or.inl rfl) (ok_iconst 8 rfl rfl (by decide) (ok_iadd 9 rfl rfl (by first | omega | (simp [up_if]; omega) | (simp [up_if] at *; omega)) (ok_putI 10 rfl rfl fl_X10_31 rfl rfl rfl rfl (ok_goto 11 71 rfl rfl rfl (ok_vret 34 rfl rfl rfl ?_)))))))
    exact ⟨rfl, QJ_D h ⟨fr_up fr.rf (by simp [rgD]), by rw [up_same]; omega, by rw [up_same]; omega⟩, Or.inl ⟨by rw [up_nk _ _ _ _ (by decide)]; exact hf0, PA_bl ⟨by omega, by omega⟩, by rw [up_same]; omega, up_nk _ _ _ _ (by decide)⟩⟩
