/-- what is kept -/
def wtK (σ : eS) (p m : Int) : Prop := (∀ q, 0 ≤ q → q < p → 1 ≤ σ 12 q) ∧ sm (fun q => σ 12 q) p.toNat = m
def colK (σ : eS) (p n : Int) : Prop := ∀ q i, 0 ≤ q → q < p → 0 ≤ i → i < n → 0 ≤ σ 13 (8 * q + i) ∧ σ 13 (8 * q + i) < n
abbrev rgK : Nat → Int → Prop := fun c k => (c = 0 ∧ 27 ≤ k ∧ k ≤ 30) ∨ c = 9 ∨ c = 10 ∨ c = 11 ∨ c = 12 ∨ c = 13
def QK (σ : eS) (kind m : Int) (σ' : eS) (z : Int) : Prop := fr rgK σ σ' ∧ z = σ' 0 27 ∧ 1 ≤ z ∧ z ≤ 64 ∧ σ' 0 28 = σ 0 22 ∧ σ' 0 29 = m ∧ σ' 0 30 = kind ∧ wtK σ' z m ∧ colK σ' z (σ 0 22)
theorem np_bd (σ : eS) (h : nW σ) : 0 ≤ np σ ∧ np σ ≤ 64 := by
  have hn : 1 ≤ σ 0 22 ∧ σ 0 22 ≤ 8 := h
  obtain ⟨q1, q2⟩ := sq8 (n := σ 0 22) ⟨by omega, by omega⟩
  have := sm_bd (f := fun k => if 0 < σ 9 k then 1 else 0) (B := 1) (by decide) (n := (σ 0 22 * σ 0 22).toNat) (fun k a b => by split <;> omega)
  unfold np
  exact ⟨this.1, by omega⟩
theorem np_pos {σ : eS} {k : Int} (h0 : 0 ≤ k) (h1 : k < σ 0 22 * σ 0 22) (h2 : 0 < σ 9 k) : 1 ≤ np σ := by
  have := sm_le (f := fun k => if 0 < σ 9 k then 1 else 0) (n := (σ 0 22 * σ 0 22).toNat) (fun k a b => by split <;> omega) k h0 (by omega)
  rw [if_pos h2] at this
  exact this
theorem s_Mo_keepsAll {σ : eS} {r kind m : Int} (h : nW σ) (he : EvW (σ 0 22) (wk σ) m) (hm : 1 ≤ m ∧ m ≤ 799999992) : MtI shB M_Mo_keepsAll [vr 0, vi r, vi kind, vi m] σ (QK σ kind m) := by
  refine Mt.of okM_Mo_keepsAll (Nat.le_of_ble_eq_true rfl) (fun hk hg => ?_)
  obtain ⟨n, en⟩ : ∃ x, x = σ 0 22 := ⟨_, rfl⟩
  have hn : 1 ≤ n ∧ n ≤ 8 := by rw [en]; exact h
  obtain ⟨sq1, sq2⟩ := sq8 (n := n) ⟨by omega, by omega⟩
  have hnp := np_bd σ h
  refine ok_aload_n 0 rfl rfl rfl (ok_iconst 1 rfl rfl (by decide) (ok_putI 2 rfl rfl fl_X12_273 rfl rfl rfl rfl (ok_aload_n 3 rfl rfl rfl (ok_aload_n 4 rfl rfl rfl (ok_getI 5 rfl rfl fl_X12_234 rfl rfl (Or.inl rfl) (ok_putI 6 rfl rfl fl_X12_276 rfl rfl rfl rfl (ok_aload_n 7 rfl rfl rfl (ok_iload_n 8 rfl rfl rfl (ok_putI 9 rfl rfl fl_X12_279 rfl rfl rfl rfl (ok_aload_n 10 rfl rfl rfl (ok_iload_n 11 rfl rfl rfl (ok_putI 12 rfl rfl fl_X12_282 rfl rfl rfl rfl ?_))))))))))))
  rw [up_nk _ _ _ _ (by decide)]
  refine lpO2 (fun (_ : Int) (_ : eS) => [some (vr 0), some (vi r), some (vi kind), some (vi m), none]) (fun _ ρ => ρ) (fun x ρ => fr rgK σ ρ ∧ 0 ≤ x ∧ x ≤ m ∧ EvW n (wk ρ) x ∧ 0 ≤ ρ 0 27 ∧ ρ 0 27 + np ρ ≤ 64 ∧ ρ 0 28 = n ∧ ρ 0 29 = m ∧ ρ 0 30 = kind ∧ wtK ρ (ρ 0 27) (m - x) ∧ colK ρ (ρ 0 27) n) (fun _ ρ => (64 - ρ 0 27).toNat) ?_ m _ ⟨fr_up (fr_up (fr_up (fr_up fr.rf (by simp [rgK])) (by simp [rgK])) (by simp [rgK])) (by simp [rgK]), by omega, by omega, ?_, by simp [up_if], ?_, by simp [up_if, en], by simp [up_if], by simp [up_if], ?_, ?_⟩
  rotate_left
  · have e : wk (up (up (up (up σ 0 27 0) 0 28 (σ 0 22)) 0 29 m) 0 30 kind) = wk σ := by funext a b; unfold wk; simp [up_if]
    rw [e, en]; exact he
  · have e : np (up (up (up (up σ 0 27 0) 0 28 (σ 0 22)) 0 29 m) 0 30 kind) = np σ := by unfold np; simp [up_if]
    rw [e]; simp [up_if]; omega
  · refine ⟨fun q a b => ?_, ?_⟩
    · simp [up_if] at b; omega
    · simp [up_if, sm]
  · intro q i a b
    simp [up_if] at b; omega
  rintro x ρ ⟨i1, i2, i3, i4, i5, i6, i7, i8, i9, iA, iB⟩ ih
  have e22 : ρ 0 22 = n := by rw [i1 0 22 (by simp only [rgK]; omega), en]
  have rn : nW ρ := h.fr' (by rw [e22, en])
  have rnp := np_bd ρ rn
  refine ok_aload_n 13 rfl rfl rfl (ok_callVI (M' := M_Mo_isLeft) (as := []) 14 rfl rfl ml_X12_285 (s_Mo_isLeft rn) rfl rfl (Nat.le_of_ble_eq_true rfl) ⟨Nat.le_of_ble_eq_true rfl, Nat.le_of_ble_eq_true rfl⟩ rfl (Nat.le_of_ble_eq_true rfl) (fun σ' z hz => ?_))
  obtain ⟨hs_, hz⟩ := hz
  rw [hs_]; clear hs_ σ'
  rw [e22] at hz
  refine ok_if_eq 15 97 rfl rfl rfl (fun h27 => ?_) (fun h27 => ?_)
  · refine ok_aload_n 52 rfl rfl rfl (ok_getI 53 rfl rfl fl_X12_273 rfl rfl (Or.inl rfl) (ok_iret 54 rfl rfl rfl ?_))
    have hall : ∀ k, 0 ≤ k → k < n * n → ρ 9 k ≤ 0 := by
      rcases hz with q | q
      · omega
      · exact q.2
    have hx0 : x = 0 := by
      rw [← i4.2.1 0 (by omega) (by omega)]
      have := sm_bd (f := fun j => wk ρ 0 j) (B := 0) (by decide) (n := n.toNat) (fun j a b => by
        have g := ix8 (n := n) (i := 0) (j := j) ⟨by omega, by omega⟩ ⟨by omega, by omega⟩ ⟨a, by omega⟩
        have g2 := i4.1 0 j (by omega) (by omega) a (by omega)
        have g3 := hall (n * 0 + j) (by omega) (by omega)
        unfold wk at g2 ⊢
        rw [e22] at g2 ⊢
        exact ⟨g2, g3⟩)
      omega
    have hp1 : 1 ≤ ρ 0 27 := by
      rcases (show ρ 0 27 = 0 ∨ 1 ≤ ρ 0 27 by omega) with q | q
      · have := iA.2
        rw [q] at this
        have : (0 : Int) = m - x := this
        omega
      · exact q
    exact ⟨_, rfl, i1, rfl, hp1, by omega, by rw [i7, en], i8, i9, by have := iA; rwa [hx0, Int.sub_zero] at this, by rw [← en]; exact iB⟩
  · have hex : ∃ k, 0 ≤ k ∧ k < n * n ∧ 0 < ρ 9 k := by
      rcases hz with q | q
      · exact q.2
      · omega
    have hnp1 : 1 ≤ np ρ := by
      obtain ⟨k, a, b, c⟩ := hex
      exact np_pos a (by rw [e22]; exact b) c
    have hx1 : 1 ≤ x := by
      obtain ⟨k, a, b, c⟩ := hex
      have g1 := Int.mul_ediv_add_emod k n
      have g2 := Int.emod_nonneg k (by omega : n ≠ 0)
      have g3 := Int.emod_lt_of_pos k (by omega : 0 < n)
      have g4 : k / n < n := Int.ediv_lt_of_lt_mul (by omega) (by omega)
      have g5 : 0 ≤ k / n := Int.ediv_nonneg a (by omega)
      have g6 := EvW_bd i4 ⟨g5, g4⟩ ⟨g2, g3⟩
      unfold wk at g6
      rw [e22, g1] at g6
      omega
    clear hex hz
    refine ok_aload_n 16 rfl rfl rfl (ok_getR 17 rfl rfl fl_X12_48 rfl rfl (ok_aload_n 18 rfl rfl rfl (ok_getI 19 rfl rfl fl_X12_273 rfl rfl (Or.inl rfl) (ok_aload_n 20 rfl rfl rfl (ok_iload_n 21 rfl rfl rfl (ok_callVI (M' := M_Mo_peels) (as := [_]) 22 rfl rfl ml_X12_288 (s_Mo_peels rn (by rw [e22]; exact i4) ⟨hx1, by omega⟩) rfl rfl (Nat.le_of_ble_eq_true rfl) ⟨Nat.le_of_ble_eq_true rfl, Nat.le_of_ble_eq_true rfl⟩ rfl (Nat.le_of_ble_eq_true rfl) (fun τ z hz => ?_)))))))
    obtain ⟨z1, z2, z3, z4, z5, z6, z7⟩ := hz
    rw [e22] at z4 z6 z7
    have t : ∀ k, τ 0 k = ρ 0 k := fun k => z3 0 k (by omega)
    have t12 : ∀ k, τ 12 k = ρ 12 k := fun k => z3 12 k (by omega)
    have t13 : ∀ k, τ 13 k = ρ 13 k := fun k => z3 13 k (by omega)
    refine ok_iast 23 rfl rfl rfl (by first | omega | (simp [up_if]; omega) | (simp [up_if] at *; omega)) (ok_iconst 24 rfl rfl (by decide) (ok_ist4 25 rfl rfl rfl ?_))
    refine lpO2 (fun (i : Int) (_ : eS) => [some (vr 0), some (vi r), some (vi kind), some (vi m), some (vi i)]) (fun _ υ => υ) (fun i υ => 0 ≤ i ∧ i ≤ n ∧ fr (fun c _ => c = 13) (up τ 12 (ρ 0 27) z) υ ∧ (∀ q a, 0 ≤ q → q < ρ 0 27 → 0 ≤ a → a < n → υ 13 (8 * q + a) = ρ 13 (8 * q + a)) ∧ ∀ a, 0 ≤ a → a < i → 0 ≤ υ 13 (8 * ρ 0 27 + a) ∧ υ 13 (8 * ρ 0 27 + a) < n) (fun i _ => (n - i).toNat) ?_ 0 _ ⟨by omega, by omega, fr.rf, fun q a y1 y2 y3 y4 => by rw [up_ne _ _ _ _ (by decide), t13], fun a b c => by omega⟩
    rintro i υ ⟨k1, k2, k3, k4, k5⟩ ih2
    have v0 : ∀ k, υ 0 k = ρ 0 k := fun k => by rw [k3 0 k (by omega), up_ne _ _ _ _ (by decide), t]
    have v11 : ∀ k, υ 11 k = τ 11 k := fun k => by rw [k3 11 k (by omega), up_ne _ _ _ _ (by decide)]
    have v27 := v0 27
    have v22 := v0 22
    refine ok_iload 26 rfl rfl rfl (ok_aload_n 27 rfl rfl rfl (ok_getI 28 rfl rfl fl_X12_234 rfl rfl (Or.inl rfl) (ok_icmp_ge 29 84 rfl rfl rfl (fun h53 => ?_) (fun h53 => ?_))))
    · refine ok_aload_n 45 rfl rfl rfl (ok_dup 46 rfl rfl rfl (ok_getI 47 rfl rfl fl_X12_273 rfl rfl (Or.inl rfl) (ok_iconst 48 rfl rfl (by decide) (ok_iadd 49 rfl rfl (by first | omega | (simp [up_if]; omega) | (simp [up_if] at *; omega)) (ok_putI 50 rfl rfl fl_X12_273 rfl rfl rfl rfl (ok_goto 51 23 rfl rfl rfl ?_))))))
      rw [v27]
      have w12 : ∀ k, up υ 0 27 (ρ 0 27 + 1) 12 k = if k = ρ 0 27 then z else ρ 12 k := fun k => by
        rw [up_ne _ _ _ _ (by decide), k3 12 k (by omega), up_if]
        by_cases q : k = ρ 0 27
        · rw [if_pos ⟨rfl, q⟩, if_pos q]
        · rw [if_neg (fun y => q y.2), if_neg q, t12]
      have w13 : ∀ k, up υ 0 27 (ρ 0 27 + 1) 13 k = υ 13 k := fun k => up_ne _ _ _ _ (by decide)
      have w9 : ∀ k, up υ 0 27 (ρ 0 27 + 1) 9 k = τ 9 k := fun k => by rw [up_ne _ _ _ _ (by decide), k3 9 k (by omega), up_ne _ _ _ _ (by decide)]
      have wwk : wk (up υ 0 27 (ρ 0 27 + 1)) = wk τ := by
        funext a b
        unfold wk
        rw [w9, up_nk _ _ _ _ (show (22 : Int) ≠ 27 by decide), v22, t]
      have wnp : np (up υ 0 27 (ρ 0 27 + 1)) = np τ := by
        unfold np
        simp only [w9]
        rw [up_nk _ _ _ _ (by decide), v22, t]
      have w27 : up υ 0 27 (ρ 0 27 + 1) 0 27 = ρ 0 27 + 1 := up_same _ _ _ _
      refine ok_fg [some (vr 0), some (vi r), some (vi kind), some (vi m), none] ⟨rfl, rfl, rfl, rfl, trivial⟩ (ih (x - z) _ ⟨fr_up (i1.tr (fun c k q => by
        simp only [rgK] at q
        rw [k3 c k (by omega), up_ne _ _ _ _ (by omega), z3 c k (by omega)])) (by simp [rgK]), by omega, by omega, by rw [wwk]; exact z4, by rw [w27]; omega, by rw [w27, wnp]; omega, by rw [up_nk _ _ _ _ (by decide), v0]; exact i7, by rw [up_nk _ _ _ _ (by decide), v0]; exact i8, by rw [up_nk _ _ _ _ (by decide), v0]; exact i9, ?_, ?_⟩ (by rw [w27]; omega))
      · rw [w27]
        refine ⟨fun q a b => ?_, ?_⟩
        · rw [w12]
          split
          · exact z1
          · exact iA.1 q a (by omega)
        · rw [sm_s _ i5, w12, if_pos rfl]
          have e : sm (fun q => up υ 0 27 (ρ 0 27 + 1) 12 q) (ρ 0 27).toNat = sm (fun q => ρ 12 q) (ρ 0 27).toNat := sm_cg (fun k a b => by rw [w12, if_neg (by omega)])
          rw [e, iA.2]
          omega
      · rw [w27]
        intro q a y1 y2 y3 y4
        rw [w13]
        by_cases hq : q = ρ 0 27
        · rw [hq]; exact k5 a y3 (by omega)
        · rw [k4 q a y1 (by omega) y3 y4]; exact iB q a y1 (by omega) y3 y4
    · have hch : 0 ≤ τ 11 i ∧ τ 11 i < n := z6.1 i k1 (by omega)
      refine ok_aload_n 30 rfl rfl rfl (ok_getR 31 rfl rfl fl_X12_51 rfl rfl (ok_bipush 32 rfl rfl (by decide) (by decide) (ok_aload_n 33 rfl rfl rfl (ok_getI 34 rfl rfl fl_X12_273 rfl rfl (Or.inl rfl) (ok_imul 35 rfl rfl (by first | omega | (simp [up_if]; omega) | (simp [up_if] at *; omega)) (ok_iload 36 rfl rfl rfl (ok_iadd 37 rfl rfl (by first | omega | (simp [up_if]; omega) | (simp [up_if] at *; omega)) (ok_aload_n 38 rfl rfl rfl (ok_getR 39 rfl rfl fl_X12_45 rfl rfl (ok_iload 40 rfl rfl rfl (ok_iald 41 rfl rfl rfl (by first | omega | (simp [up_if]; omega) | (simp [up_if] at *; omega)) (ok_iast 42 rfl rfl rfl (by first | omega | (simp [up_if]; omega) | (simp [up_if] at *; omega)) (ok_inc4 43 rfl rfl rfl (by first | omega | (simp [up_if]; omega) | (simp [up_if] at *; omega)) (ok_goto 44 47 rfl rfl rfl ?_))))))))))))))
      rw [v11, v27]
      refine ih2 (i + 1) _ ⟨by omega, by omega, fr_up k3 rfl, fun q a y1 y2 y3 y4 => ?_, fun a b c => ?_⟩ (by omega)
      · rw [up_nk _ _ _ _ (by omega)]; exact k4 q a y1 y2 y3 y4
      · rw [up_if]
        by_cases q : a = i
        · rw [if_pos ⟨rfl, by rw [q]⟩]; exact hch
        · rw [if_neg (by omega)]; exact k5 a b (by omega)
