def byA (v k : Int) : Int := iand (iushr v (24 - 8 * k)) 255
def pA (σ : eS) (L v i : Int) (σ' : eS) : Prop := fr (fun c k => (c = 10 ∧ k = 3) ∨ (c = 11 ∧ L ≤ k ∧ k < L + 4)) σ σ' ∧ σ' 10 3 = L + i ∧ ∀ q, 0 ≤ q → q < i → σ' 11 (L + q) = byA v q
theorem s_Tp_putNumber {σ : eS} {v L : Int} (hL : σ 10 3 = L) (h : 0 ≤ L ∧ L ≤ 596) : MtV shA M_Tp_putNumber [vr 10, vi v] σ (fun σ' => pA σ L v 4 σ') := by
  refine Mt.of okM_Tp_putNumber (Nat.le_of_ble_eq_true rfl) (fun hk hg => ?_)
  refine ok_bipush 0 rfl rfl (by decide) (by decide) (ok_ist2 1 rfl rfl rfl ?_)
  refine lpO3 (fun (s _ : Int) (_ : eS) => [some (vr 10), some (vi v), some (vi s)]) (fun _ _ ρ => ρ) (fun s i ρ => 0 ≤ i ∧ i ≤ 4 ∧ s = 24 - 8 * i ∧ pA σ L v i ρ) (fun _ i _ => (4 - i).toNat) ?_ 24 0 σ ⟨by omega, by omega, by omega, fr.rf, by omega, fun q a b => by omega⟩
  rintro s i ρ ⟨i1, i2, es, f, e3, hq⟩ ih
  refine ok_iload_n 2 rfl rfl rfl (ok_if_lt 3 49 rfl rfl rfl (fun h4 => ?_) (fun h4 => ?_))
  · refine ok_vret 26 rfl rfl rfl ?_
    exact ⟨rfl, f, by rw [e3, show i = 4 by omega], fun q a b => hq q a (by omega)⟩
  · refine ok_aload_n 4 rfl rfl rfl (ok_getI 5 rfl rfl fl_X10_21 rfl rfl (Or.inl rfl) (ok_sipush 6 rfl rfl (by decide) (by decide) (ok_icmp_ge 7 49 rfl rfl rfl (fun h14 => ?_) (fun h14 => ?_))))
    · refine ok_vret 26 rfl rfl rfl ?_
      exact ⟨rfl, f, by rw [e3, show i = 4 by omega], fun q a b => hq q a (by omega)⟩
    · refine ok_aload_n 8 rfl rfl rfl (ok_getR 9 rfl rfl fl_X10_11 rfl rfl (ok_aload_n 10 rfl rfl rfl (ok_getI 11 rfl rfl fl_X10_21 rfl rfl (Or.inl rfl) (ok_iload_n 12 rfl rfl rfl (ok_iload_n 13 rfl rfl rfl (ok_iushr 14 rfl rfl (ok_sipush 15 rfl rfl (by decide) (by decide) (ok_iand 16 rfl rfl (ok_iast 17 rfl rfl rfl (by first | omega | (simp [up_if]; omega) | (simp [up_if] at *; omega)) (ok_aload_n 18 rfl rfl rfl (ok_dup 19 rfl rfl rfl (ok_getI 20 rfl rfl fl_X10_21 rfl rfl (Or.inl rfl) (ok_iconst 21 rfl rfl (by decide) (ok_iadd 22 rfl rfl (by first | omega | (simp [up_if]; omega) | (simp [up_if] at *; omega)) (ok_putI 23 rfl rfl fl_X10_21 rfl rfl rfl rfl (ok_inc2 24 rfl rfl rfl (by first | omega | (simp [up_if]; omega) | (simp [up_if] at *; omega)) (ok_goto 25 3 rfl rfl rfl ?_)))))))))))))))))
      refine ih _ (i + 1) _ ⟨by omega, by omega, by omega, fr_up (fr_up f (Or.inr ⟨rfl, by omega, by omega⟩)) (Or.inl ⟨rfl, rfl⟩), by rw [up_same, up_ne _ _ _ _ (by decide), e3]; omega, fun q a b => ?_⟩ (by omega)
      rw [up_ne _ _ _ _ (by decide), up_if, e3]
      by_cases w : q = i
      · rw [if_pos ⟨rfl, by rw [w]⟩, es, w]; rfl
      · rw [if_neg (by omega)]; exact hq q a (by omega)
