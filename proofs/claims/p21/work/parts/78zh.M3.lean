/-- which row, column of a table turned: where it comes from (tn), where it goes (tg) -/
def tnR (w r n i j : Int) : Int := if w = 1 then j else if w = 2 then n - 1 - i else if w = 4 then (if i < r then i else if i < n - 1 then i + 1 else r) else i
def tnC (w r n i j : Int) : Int := if w = 1 then i else if w = 3 then n - 1 - j else if w = 5 then (if j < r then j else if j < n - 1 then j + 1 else r) else j
def tgR (w r n i j : Int) : Int := if w = 1 then j else if w = 2 then n - 1 - i else if w = 4 then (if i < r then i else if i = r then n - 1 else i - 1) else i
def tgC (w r n i j : Int) : Int := if w = 1 then i else if w = 3 then n - 1 - j else if w = 5 then (if j < r then j else if j = r then n - 1 else j - 1) else j
theorem tnR_sp (w r n i j : Int) : (w = 1 → tnR w r n i j = j) ∧ (w = 2 → tnR w r n i j = n - 1 - i) ∧ (w = 4 → i < r → tnR w r n i j = i) ∧ (w = 4 → r ≤ i → i < n - 1 → tnR w r n i j = i + 1) ∧ (w = 4 → r ≤ i → n - 1 ≤ i → tnR w r n i j = r) ∧ (w ≠ 1 → w ≠ 2 → w ≠ 4 → tnR w r n i j = i) := by
  unfold tnR
  exact ⟨fun a => if_pos a, fun a => by rw [if_neg (by omega), if_pos a], fun a b => by rw [if_neg (by omega), if_neg (by omega), if_pos a, if_pos b], fun a b c => by rw [if_neg (by omega), if_neg (by omega), if_pos a, if_neg (by omega), if_pos c], fun a b c => by rw [if_neg (by omega), if_neg (by omega), if_pos a, if_neg (by omega), if_neg (by omega)], fun a b c => by rw [if_neg a, if_neg b, if_neg c]⟩
theorem tnC_sp (w r n i j : Int) : (w = 1 → tnC w r n i j = i) ∧ (w = 3 → tnC w r n i j = n - 1 - j) ∧ (w = 5 → j < r → tnC w r n i j = j) ∧ (w = 5 → r ≤ j → j < n - 1 → tnC w r n i j = j + 1) ∧ (w = 5 → r ≤ j → n - 1 ≤ j → tnC w r n i j = r) ∧ (w ≠ 1 → w ≠ 3 → w ≠ 5 → tnC w r n i j = j) := by
  unfold tnC
  exact ⟨fun a => if_pos a, fun a => by rw [if_neg (by omega), if_pos a], fun a b => by rw [if_neg (by omega), if_neg (by omega), if_pos a, if_pos b], fun a b c => by rw [if_neg (by omega), if_neg (by omega), if_pos a, if_neg (by omega), if_pos c], fun a b c => by rw [if_neg (by omega), if_neg (by omega), if_pos a, if_neg (by omega), if_neg (by omega)], fun a b c => by rw [if_neg a, if_neg b, if_neg c]⟩
theorem tgR_sp (w r n i j : Int) : (w = 1 → tgR w r n i j = j) ∧ (w = 2 → tgR w r n i j = n - 1 - i) ∧ (w = 4 → i < r → tgR w r n i j = i) ∧ (w = 4 → i = r → tgR w r n i j = n - 1) ∧ (w = 4 → r < i → tgR w r n i j = i - 1) ∧ (w ≠ 1 → w ≠ 2 → w ≠ 4 → tgR w r n i j = i) := by
  unfold tgR
  exact ⟨fun a => if_pos a, fun a => by rw [if_neg (by omega), if_pos a], fun a b => by rw [if_neg (by omega), if_neg (by omega), if_pos a, if_pos b], fun a b => by rw [if_neg (by omega), if_neg (by omega), if_pos a, if_neg (by omega), if_pos b], fun a b => by rw [if_neg (by omega), if_neg (by omega), if_pos a, if_neg (by omega), if_neg (by omega)], fun a b c => by rw [if_neg a, if_neg b, if_neg c]⟩
theorem tgC_sp (w r n i j : Int) : (w = 1 → tgC w r n i j = i) ∧ (w = 3 → tgC w r n i j = n - 1 - j) ∧ (w = 5 → j < r → tgC w r n i j = j) ∧ (w = 5 → j = r → tgC w r n i j = n - 1) ∧ (w = 5 → r < j → tgC w r n i j = j - 1) ∧ (w ≠ 1 → w ≠ 3 → w ≠ 5 → tgC w r n i j = j) := by
  unfold tgC
  exact ⟨fun a => if_pos a, fun a => by rw [if_neg (by omega), if_pos a], fun a b => by rw [if_neg (by omega), if_neg (by omega), if_pos a, if_pos b], fun a b => by rw [if_neg (by omega), if_neg (by omega), if_pos a, if_neg (by omega), if_pos b], fun a b => by rw [if_neg (by omega), if_neg (by omega), if_pos a, if_neg (by omega), if_neg (by omega)], fun a b c => by rw [if_neg a, if_neg b, if_neg c]⟩
theorem tn_tg {w r n p q : Int} (hw : 0 ≤ w ∧ w ≤ 5) (hr : 3 < w → 0 ≤ r ∧ r < n) (hp : 0 ≤ p ∧ p < n) (hq : 0 ≤ q ∧ q < n) : (0 ≤ tnR w r n p q ∧ tnR w r n p q < n) ∧ (0 ≤ tnC w r n p q ∧ tnC w r n p q < n) ∧ tgR w r n (tnR w r n p q) (tnC w r n p q) = p ∧ tgC w r n (tnR w r n p q) (tnC w r n p q) = q := by
  have a1 := tnR_sp w r n p q
  have a2 := tnC_sp w r n p q
  have a3 := tgR_sp w r n (tnR w r n p q) (tnC w r n p q)
  have a4 := tgC_sp w r n (tnR w r n p q) (tnC w r n p q)
  generalize tgR w r n (tnR w r n p q) (tnC w r n p q) = c at *
  generalize tgC w r n (tnR w r n p q) (tnC w r n p q) = d at *
  generalize tnR w r n p q = a at *
  generalize tnC w r n p q = b at *
  rcases (by omega : w = 0 ∨ w = 1 ∨ w = 2 ∨ w = 3 ∨ w = 4 ∨ w = 5) with x | x | x | x | x | x <;> subst x <;> simp at a1 a2 a3 a4 hr <;> omega
theorem tg_in {w r n i j : Int} (hw : 0 ≤ w ∧ w ≤ 5) (hr : 3 < w → 0 ≤ r ∧ r < n) (hp : 0 ≤ i ∧ i < n) (hq : 0 ≤ j ∧ j < n) : (0 ≤ tgR w r n i j ∧ tgR w r n i j < n) ∧ (0 ≤ tgC w r n i j ∧ tgC w r n i j < n) := by
  have a1 := tgR_sp w r n i j
  have a2 := tgC_sp w r n i j
  generalize tgR w r n i j = c at *
  generalize tgC w r n i j = d at *
  rcases (by omega : w = 0 ∨ w = 1 ∨ w = 2 ∨ w = 3 ∨ w = 4 ∨ w = 5) with x | x | x | x | x | x <;> subst x <;> simp at a1 a2 hr <;> omega
theorem tg_inj {w r n i j x y : Int} (hw : 0 ≤ w ∧ w ≤ 5) (hr : 3 < w → 0 ≤ r ∧ r < n) (hi : 0 ≤ i ∧ i < n) (hj : 0 ≤ j ∧ j < n) (hx : 0 ≤ x ∧ x < n) (hy : 0 ≤ y ∧ y < n) (e1 : tgR w r n i j = tgR w r n x y) (e2 : tgC w r n i j = tgC w r n x y) : i = x ∧ j = y := by
  have a1 := tgR_sp w r n i j
  have a2 := tgC_sp w r n i j
  have a3 := tgR_sp w r n x y
  have a4 := tgC_sp w r n x y
  rw [← e1] at a3
  rw [← e2] at a4
  generalize tgR w r n i j = c at *
  generalize tgC w r n i j = d at *
  rcases (by omega : w = 0 ∨ w = 1 ∨ w = 2 ∨ w = 3 ∨ w = 4 ∨ w = 5) with q | q | q | q | q | q <;> subst q <;> simp at a1 a2 a3 a4 hr <;> omega
theorem nx_inj {n a b c d : Int} (h1 : 0 ≤ b ∧ b < n) (h2 : 0 ≤ d ∧ d < n) (e : n * a + b = n * c + d) : a = c ∧ b = d := by
  rcases (by omega : a < c ∨ a = c ∨ c < a) with q | q | q
  · have := nx_lt (n := n) (x := a) (y := b) (i := c) h1.2 (by omega) q; omega
  · subst q; exact ⟨rfl, by omega⟩
  · have := nx_lt (n := n) (x := c) (y := d) (i := a) h2.2 (by omega) q; omega
theorem t_Mk_turnedFrom {σ : eS} {i b1 b2 r l : Int} (hi : 0 ≤ i ∧ i ≤ l) (hl : l ≤ 7) (hr : b2 ≠ 0 → 0 ≤ r ∧ r ≤ l) : MtI shA M_Mk_turnedFrom [vi i, vi b1, vi b2, vi r, vi l] σ (fun σ' z => σ' = σ ∧ 0 ≤ z ∧ z ≤ l ∧ (b1 ≠ 0 → z = l - i) ∧ (b1 = 0 → (b2 = 0 ∨ i < r) → z = i) ∧ (b1 = 0 → b2 ≠ 0 → r ≤ i → i < l → z = i + 1) ∧ (b1 = 0 → b2 ≠ 0 → r ≤ i → l ≤ i → z = r)) := by
  refine Mt.of okM_Mk_turnedFrom (Nat.le_of_ble_eq_true rfl) (fun hk hg => ?_)
  refine ok_iload_n 0 rfl rfl rfl (ok_if_eq 1 9 rfl rfl rfl (fun h1 => ?_) (fun h1 => ?_))
  · refine ok_iload_n 6 rfl rfl rfl (ok_if_eq 7 18 rfl rfl rfl (fun h10 => ?_) (fun h10 => ?_))
    · refine ok_iload_n 11 rfl rfl rfl (ok_iret 12 rfl rfl rfl ?_)
      exact ⟨_, rfl, rfl, by omega, by omega, by omega, by omega, by omega, by omega⟩
    · refine ok_iload_n 8 rfl rfl rfl (ok_iload_n 9 rfl rfl rfl (ok_icmp_ge 10 20 rfl rfl rfl (fun h15 => ?_) (fun h15 => ?_)))
      · refine ok_iload_n 13 rfl rfl rfl (ok_iload 14 rfl rfl rfl (ok_icmp_ge 15 32 rfl rfl rfl (fun h23 => ?_) (fun h23 => ?_)))
        · refine ok_iload_n 20 rfl rfl rfl (ok_iret 21 rfl rfl rfl ?_)
          exact ⟨_, rfl, rfl, by omega, by omega, by omega, by omega, by omega, by omega⟩
        · refine ok_iload_n 16 rfl rfl rfl (ok_iconst 17 rfl rfl (by decide) (ok_iadd 18 rfl rfl (by first | omega | (simp [up_if]; omega) | (simp [up_if] at *; omega)) (ok_goto 19 33 rfl rfl rfl (ok_iret 21 rfl rfl rfl ?_))))
          exact ⟨_, rfl, rfl, by omega, by omega, by omega, by omega, by omega, by omega⟩
      · refine ok_iload_n 11 rfl rfl rfl (ok_iret 12 rfl rfl rfl ?_)
        exact ⟨_, rfl, rfl, by omega, by omega, by omega, by omega, by omega, by omega⟩
  · refine ok_iload 2 rfl rfl rfl (ok_iload_n 3 rfl rfl rfl (ok_isub 4 rfl rfl (by first | omega | (simp [up_if]; omega) | (simp [up_if] at *; omega)) (ok_iret 5 rfl rfl rfl ?_)))
    exact ⟨_, rfl, rfl, by omega, by omega, by omega, by omega, by omega, by omega⟩
theorem fl1 {P : Prop} (h : P) : (1 : Int) ≠ 0 ↔ P := ⟨fun _ => h, fun _ => by decide⟩
theorem fl0 {P : Prop} (h : ¬ P) : (0 : Int) ≠ 0 ↔ P := ⟨fun q => absurd rfl q, fun q => absurd q h⟩
theorem tnR_tf {w r n i j z b1 b2 : Int} (h1 : ¬ w = 1) (hb1 : b1 ≠ 0 ↔ w = 2) (hb2 : b2 ≠ 0 ↔ w = 4) (hz : (b1 ≠ 0 → z = n - 1 - i) ∧ (b1 = 0 → (b2 = 0 ∨ i < r) → z = i) ∧ (b1 = 0 → b2 ≠ 0 → r ≤ i → i < n - 1 → z = i + 1) ∧ (b1 = 0 → b2 ≠ 0 → r ≤ i → n - 1 ≤ i → z = r)) : z = tnR w r n i j := by
  obtain ⟨z1, z2, z3, z4⟩ := hz
  unfold tnR
  rw [if_neg h1]
  by_cases c : w = 2
  · rw [if_pos c]; exact z1 (hb1.mpr c)
  · rw [if_neg c]
    have b10 : b1 = 0 := Classical.not_not.mp (fun q => c (hb1.mp q))
    by_cases d : w = 4
    · rw [if_pos d]
      have b2n := hb2.mpr d
      by_cases e : i < r
      · rw [if_pos e]; exact z2 b10 (Or.inr e)
      · rw [if_neg e]
        by_cases f : i < n - 1
        · rw [if_pos f]; exact z3 b10 b2n (Int.not_lt.mp e) f
        · rw [if_neg f]; exact z4 b10 b2n (Int.not_lt.mp e) (Int.not_lt.mp f)
    · rw [if_neg d]; exact z2 b10 (Or.inl (Classical.not_not.mp (fun q => d (hb2.mp q))))
theorem tnC_tf {w r n i j z b1 b2 : Int} (h1 : ¬ w = 1) (hb1 : b1 ≠ 0 ↔ w = 3) (hb2 : b2 ≠ 0 ↔ w = 5) (hz : (b1 ≠ 0 → z = n - 1 - j) ∧ (b1 = 0 → (b2 = 0 ∨ j < r) → z = j) ∧ (b1 = 0 → b2 ≠ 0 → r ≤ j → j < n - 1 → z = j + 1) ∧ (b1 = 0 → b2 ≠ 0 → r ≤ j → n - 1 ≤ j → z = r)) : z = tnC w r n i j := by
  obtain ⟨z1, z2, z3, z4⟩ := hz
  unfold tnC
  rw [if_neg h1]
  by_cases c : w = 3
  · rw [if_pos c]; exact z1 (hb1.mpr c)
  · rw [if_neg c]
    have b10 : b1 = 0 := Classical.not_not.mp (fun q => c (hb1.mp q))
    by_cases d : w = 5
    · rw [if_pos d]
      have b2n := hb2.mpr d
      by_cases e : j < r
      · rw [if_pos e]; exact z2 b10 (Or.inr e)
      · rw [if_neg e]
        by_cases f : j < n - 1
        · rw [if_pos f]; exact z3 b10 b2n (Int.not_lt.mp e) f
        · rw [if_neg f]; exact z4 b10 b2n (Int.not_lt.mp e) (Int.not_lt.mp f)
    · rw [if_neg d]; exact z2 b10 (Or.inl (Classical.not_not.mp (fun q => d (hb2.mp q))))
section TG
variable {w r n i j z : Int}
theorem tnR_1 (h : w = 1) : j = tnR w r n i j := by unfold tnR; rw [if_pos h]
theorem tnC_1 (h : w = 1) : i = tnC w r n i j := by unfold tnC; rw [if_pos h]
theorem tgR_1 (h : w = 1) : j = tgR w r n i j := by unfold tgR; rw [if_pos h]
theorem tgR_2 (h : ¬ w = 1) (h2 : w = 2) : n - 1 - i = tgR w r n i j := by unfold tgR; rw [if_neg h, if_pos h2]
theorem tgR_4 (h : ¬ w = 1) (h2 : ¬ w = 2) (h4 : w = 4) (q : z = if i < r then i else if i = r then n - 1 else i - 1) : z = tgR w r n i j := by unfold tgR; rw [if_neg h, if_neg h2, if_pos h4]; exact q
theorem tgR_0 (h : ¬ w = 1) (h2 : ¬ w = 2) (h4 : ¬ w = 4) : i = tgR w r n i j := by unfold tgR; rw [if_neg h, if_neg h2, if_neg h4]
theorem tgC_1 (h : w = 1) : i = tgC w r n i j := by unfold tgC; rw [if_pos h]
theorem tgC_3 (h : ¬ w = 1) (h2 : w = 3) : n - 1 - j = tgC w r n i j := by unfold tgC; rw [if_neg h, if_pos h2]
theorem tgC_5 (h : ¬ w = 1) (h2 : ¬ w = 3) (h4 : w = 5) (q : z = if j < r then j else if j = r then n - 1 else j - 1) : z = tgC w r n i j := by unfold tgC; rw [if_neg h, if_neg h2, if_pos h4]; exact q
theorem tgC_0 (h : ¬ w = 1) (h2 : ¬ w = 3) (h4 : ¬ w = 5) : j = tgC w r n i j := by unfold tgC; rw [if_neg h, if_neg h2, if_neg h4]
end TG
def tuF (σ : eS) (t : Nat) (w r n : Int) : Int → Int → Int := fun i j => cT σ t (tnR w r n i j) (tnC w r n i j)
theorem t_Mk_makeTurned {σ : eS} {t u : Nat} {w r : Int} (ht : tA t) (hu : tA u) (hS : iSu σ) (hT : iT σ t) (hU : iT σ u) (hM : mT σ u) (hn : σ t 1 ≠ 0) (hr : 3 < w → 0 ≤ r ∧ r < σ t 1) (hw : 0 ≤ w ∧ w ≤ 5) : MtI shA M_Mk_makeTurned [vr 14, vr t, vi w, vi r, vr u] σ (fun σ' z => (fr (fun c _ => c = 15 ∨ c = u ∨ c = u + 4) σ σ' ∧ iT σ' u ∧ mT σ' u ∧ iSu σ' ∧ (z = 0 ∨ z = 1)) ∧ MA σ u (σ t 1) (σ t 2) (tuF σ t w r (σ t 1)) σ' z) := by
  refine Mt.of okM_Mk_makeTurned (Nat.le_of_ble_eq_true rfl) (fun hk hg => ?_)
  have nA := tA_10 ht
  have nB := tA_10 hu
  have n1 := hT.1
  have n2 := hT.2.1
  have hB := hT.2.2.1 (by omega)
  refine ok_aload_n 0 rfl rfl rfl (ok_getI 1 rfl rfl fl_X2_31 (sT ht) rfl (Or.inl rfl) (ok_iconst 2 rfl rfl (by decide) (ok_isub 3 rfl rfl (by first | omega | (simp [up_if]; omega) | (simp [up_if] at *; omega)) (ok_ist5 4 rfl rfl rfl (ok_iconst 5 rfl rfl (by decide) (ok_ist6 6 rfl rfl rfl ?_))))))
  refine lpO2 (fun (i : Int) (_ : eS) => [some (vr 14), some (vr t), some (vi w), some (vi r), some (vr u), some (vi (σ t 1 - 1)), some (vi i), none, none, none]) (fun _ ρ => ρ) (fun i ρ => 0 ≤ i ∧ i ≤ 8 ∧ fr rgSu σ ρ ∧ iSu ρ ∧ ∀ X Y, 0 ≤ X → X < i → 0 ≤ Y → Y < σ t 1 → ρ 15 (X * 8 + Y) = tuF σ t w r (σ t 1) X Y) (fun i _ => (8 - i).toNat) ?_ 0 σ ⟨by omega, by omega, fr.rf, hS, fun X Y p q => by omega⟩
  rintro i ρ ⟨i1, i2, f, hS1, hX⟩ ih
  have e1 : ρ t 1 = σ t 1 := f t 1 (by simp only [rgSu]; omega)
  refine ok_iload 7 rfl rfl rfl (ok_aload_n 8 rfl rfl rfl (ok_getI 9 rfl rfl fl_X2_31 (sT ht) rfl (Or.inl rfl) (ok_icmp_ge 10 151 rfl rfl rfl (fun h17 => ?_) (fun h17 => ?_))))
  · have e2 : ρ t 2 = σ t 2 := f t 2 (by simp only [rgSu]; omega)
    have x1 : ∀ k, ρ (u + 4) k = σ (u + 4) k := fun k => f _ _ (by simp only [rgSu]; omega)
    have x2 : ∀ k, ρ u k = σ u k := fun k => f _ _ (by simp only [rgSu]; omega)
    refine ok_aload_n 82 rfl rfl rfl (ok_aload_n 83 rfl rfl rfl (ok_getI 84 rfl rfl fl_X2_15 (sT ht) rfl (Or.inl rfl) (ok_i2l 85 rfl rfl (ok_aload_n 86 rfl rfl rfl (ok_getI 87 rfl rfl fl_X2_31 (sT ht) rfl (Or.inl rfl) (ok_aload 88 rfl rfl rfl (ok_callVI (M' := M_Mk_bring) (as := [_, _, _]) 89 rfl rfl ml_X2_44 (t_Mk_bring hu (by omega) ⟨by omega, by omega⟩ hS1 (iT_cg hU (x2 1) (x2 2) x1).1 (mT_cg hM (x2 1) (x2 3) x1)) rfl rfl (Nat.le_of_ble_eq_true rfl) ⟨Nat.le_of_ble_eq_true rfl, Nat.le_of_ble_eq_true rfl⟩ rfl (Nat.le_of_ble_eq_true rfl) (fun τ z hz => ?_))))))))
    refine ok_zret 90 rfl rfl rfl hz.2.2.2.1 ?_
    refine ⟨_, rfl, ⟨(f.mono (fun c k q => by simp only [rgSu] at q; omega)).tr (hz.1.mono (fun c k q => by simp only [rgBr] at q; omega)), hz.2.1, hz.2.2.1, iSu_cg hS1 (fun k => hz.1 15 k (by simp only [rgBr]; omega)), hz.2.2.2.1⟩, ?_⟩
    have hm := hz.2.2.2.2
    rw [e1, e2] at hm
    exact MA_cg hm (fun c k p q => f c k (by simp only [rgSu]; omega)) (fun X Y p q r s => hX X Y p (by omega) r s)
  · refine ok_iconst 11 rfl rfl (by decide) (ok_ist7 12 rfl rfl rfl ?_)
    have il : i < σ t 1 := by omega
    clear h17
    refine lpO2 (fun (j : Int) (_ : eS) => [some (vr 14), some (vr t), some (vi w), some (vi r), some (vr u), some (vi (σ t 1 - 1)), some (vi i), some (vi j), none, none]) (fun _ ρ => ρ) (fun j ρ => 0 ≤ j ∧ j ≤ 8 ∧ fr rgSu σ ρ ∧ iSu ρ ∧ ∀ X Y, 0 ≤ X → 0 ≤ Y → Y < σ t 1 → (X < i ∨ (X = i ∧ Y < j)) → ρ 15 (X * 8 + Y) = tuF σ t w r (σ t 1) X Y) (fun j _ => (8 - j).toNat) ?_ 0 ρ ⟨by omega, by omega, f, hS1, fun X Y p q r s => hX X Y p (by omega) q r⟩
    clear e1 f hS1 hX ρ
    rintro j ρ ⟨j1, j2, f, hS1, hX⟩ ih2
    have e1 : ρ t 1 = σ t 1 := f t 1 (by simp only [rgSu]; omega)
    refine ok_iload 13 rfl rfl rfl (ok_aload_n 14 rfl rfl rfl (ok_getI 15 rfl rfl fl_X2_31 (sT ht) rfl (Or.inl rfl) (ok_icmp_ge 16 145 rfl rfl rfl (fun h29 => ?_) (fun h29 => ?_))))
    · refine ok_inc6 80 rfl rfl rfl (by first | omega | (simp [up_if]; omega) | (simp [up_if] at *; omega)) (ok_goto 81 11 rfl rfl rfl ?_)
      exact ok_fg [some (vr 14), some (vr t), some (vi w), some (vi r), some (vr u), some (vi (σ t 1 - 1)), some (vi (i + 1)), none, none, none] ⟨rfl, rfl, rfl, rfl, rfl, rfl, rfl, trivial⟩ (ih (i + 1) ρ ⟨by omega, by omega, f, hS1, fun X Y p q r s => hX X Y p r s (by omega)⟩ (by omega))
    · have jl : j < σ t 1 := by omega
      clear h29
      obtain ⟨A, eA⟩ : ∃ A, A = tnR w r (σ t 1) i j := ⟨_, rfl⟩
      obtain ⟨B, eB⟩ : ∃ B, B = tnC w r (σ t 1) i j := ⟨_, rfl⟩
      have tail2 : ∀ A' B' : Int, A' = A → B' = B → (0 ≤ A' ∧ A' ≤ σ t 1 - 1) → (0 ≤ B' ∧ B' ≤ σ t 1 - 1) → Ok shA M_Mk_makeTurned 110 [some (vr 14), some (vr t), some (vi w), some (vi r), some (vr u), some (vi (σ t 1 - 1)), some (vi i), some (vi j), some (vi A'), none] [vi B'] ρ (fun σ' v => ∃ z, v = some (vi z) ∧ (fr (fun c _ => c = 15 ∨ c = u ∨ c = u + 4) σ σ' ∧ iT σ' u ∧ mT σ' u ∧ iSu σ' ∧ (z = 0 ∨ z = 1)) ∧ MA σ u (σ t 1) (σ t 2) (tuF σ t w r (σ t 1)) σ' z) := by
        intro A' B' ha hb a1 b1
        refine ok_ist9 60 rfl rfl rfl (ok_aload_n 61 rfl rfl rfl (ok_getR 62 rfl rfl fl_X2_9 rfl rfl (ok_iload 63 rfl rfl rfl (ok_bipush 64 rfl rfl (by decide) (by decide) (ok_imul 65 rfl rfl (by first | omega | (simp [up_if]; omega) | (simp [up_if] at *; omega)) (ok_iload 66 rfl rfl rfl (ok_iadd 67 rfl rfl (by first | omega | (simp [up_if]; omega) | (simp [up_if] at *; omega)) (ok_aload_n 68 rfl rfl rfl (ok_getR 69 rfl rfl fl_X2_34 (sT ht) rfl (ok_iload 70 rfl rfl rfl (ok_bipush 71 rfl rfl (by decide) (by decide) (ok_imul 72 rfl rfl (by first | omega | (simp [up_if]; omega) | (simp [up_if] at *; omega)) (ok_iload 73 rfl rfl rfl (ok_iadd 74 rfl rfl (by first | omega | (simp [up_if]; omega) | (simp [up_if] at *; omega)) (ok_iald 75 rfl rfl (sC ht) (by first | omega | (simp [up_if]; omega) | (simp [up_if] at *; omega)) (ok_i2l 76 rfl rfl (ok_last 77 rfl rfl rfl (by first | omega | (simp [up_if]; omega) | (simp [up_if] at *; omega)) (ok_inc7 78 rfl rfl rfl (by first | omega | (simp [up_if]; omega) | (simp [up_if] at *; omega)) (ok_goto 79 23 rfl rfl rfl ?_)))))))))))))))))))
        have cb := hT.2.2.2 (A' * 8 + B') (by omega) (by omega)
        have cq := f (t + 4) (A' * 8 + B') (by simp only [rgSu]; omega)
        rw [← cq] at cb
        refine ok_fg [some (vr 14), some (vr t), some (vi w), some (vi r), some (vr u), some (vi (σ t 1 - 1)), some (vi i), some (vi (j + 1)), none, none] ⟨rfl, rfl, rfl, rfl, rfl, rfl, rfl, rfl, trivial⟩ (ih2 (j + 1) _ ⟨by omega, by omega, fr_up f rfl, up_su hS1 cb.1, fun X Y p q r' s => ?_⟩ (by omega))
        rcases (by omega : (X < i ∨ (X = i ∧ Y < j)) ∨ (X = i ∧ Y = j)) with x | x
        · rw [up_nk _ _ _ _ (by omega)]; exact hX X Y p q r' x
        · rw [x.1, x.2, up_same, cq, ha, hb, eA, eB]; rfl
      have tail : ∀ A' : Int, A' = A → (0 ≤ A' ∧ A' ≤ σ t 1 - 1) → Ok shA M_Mk_makeTurned 70 [some (vr 14), some (vr t), some (vi w), some (vi r), some (vr u), some (vi (σ t 1 - 1)), some (vi i), some (vi j), none, none] [vi A'] ρ (fun σ' v => ∃ z, v = some (vi z) ∧ (fr (fun c _ => c = 15 ∨ c = u ∨ c = u + 4) σ σ' ∧ iT σ' u ∧ mT σ' u ∧ iSu σ' ∧ (z = 0 ∨ z = 1)) ∧ MA σ u (σ t 1) (σ t 2) (tuF σ t w r (σ t 1)) σ' z) := by
        intro A' ha a1
        refine ok_ist8 38 rfl rfl rfl (ok_iload_n 39 rfl rfl rfl (ok_iconst 40 rfl rfl (by decide) (ok_icmp_ne 41 82 rfl rfl rfl (fun h74 => ?_) (fun h74 => ?_))))
        · refine ok_iload 44 rfl rfl rfl (ok_iload_n 45 rfl rfl rfl (ok_iconst 46 rfl rfl (by decide) (ok_icmp_ne 47 93 rfl rfl rfl (fun h86 => ?_) (fun h86 => ?_))))
          · refine ok_iconst 50 rfl rfl (by decide) (ok_iload_n 51 rfl rfl rfl (ok_iconst 52 rfl rfl (by decide) (ok_icmp_ne 53 103 rfl rfl rfl (fun h96 => ?_) (fun h96 => ?_))))
            · refine ok_iconst 56 rfl rfl (by decide) (ok_iload_n 57 rfl rfl rfl (ok_iload 58 rfl rfl rfl (ok_callSI (M' := M_Mk_turnedFrom) (as := [_, _, _, _, _]) 59 rfl rfl ml_X2_48 (t_Mk_turnedFrom ⟨by omega, by omega⟩ (by omega) (by omega)) ⟨Nat.le_of_ble_eq_true rfl, Nat.le_of_ble_eq_true rfl⟩ rfl (Nat.le_of_ble_eq_true rfl) (fun σ' z hz => ?_))))
              obtain ⟨hs_, hz⟩ := hz
              rw [hs_]; clear hs_ σ'
              first | exact tail2 A' z ha (by rw [eB]; exact tnC_tf h74 (fl0 h86) (fl0 h96) hz.2.2) a1 ⟨hz.1, hz.2.1⟩ | exact tail2 A' z ha (by rw [eB]; exact tnC_tf h74 (fl1 h86) (fl0 h96) hz.2.2) a1 ⟨hz.1, hz.2.1⟩ | exact tail2 A' z ha (by rw [eB]; exact tnC_tf h74 (fl0 h86) (fl1 h96) hz.2.2) a1 ⟨hz.1, hz.2.1⟩ | exact tail2 A' z ha (by rw [eB]; exact tnC_tf h74 (fl1 h86) (fl1 h96) hz.2.2) a1 ⟨hz.1, hz.2.1⟩ | exact tail2 A' i ha (by rw [eB]; exact tnC_1 h74) a1 ⟨i1, by omega⟩
            · refine ok_iconst 54 rfl rfl (by decide) (ok_goto 55 104 rfl rfl rfl (ok_iload_n 57 rfl rfl rfl (ok_iload 58 rfl rfl rfl (ok_callSI (M' := M_Mk_turnedFrom) (as := [_, _, _, _, _]) 59 rfl rfl ml_X2_48 (t_Mk_turnedFrom ⟨by omega, by omega⟩ (by omega) (by omega)) ⟨Nat.le_of_ble_eq_true rfl, Nat.le_of_ble_eq_true rfl⟩ rfl (Nat.le_of_ble_eq_true rfl) (fun σ' z hz => ?_)))))
              obtain ⟨hs_, hz⟩ := hz
              rw [hs_]; clear hs_ σ'
              first | exact tail2 A' z ha (by rw [eB]; exact tnC_tf h74 (fl0 h86) (fl0 h96) hz.2.2) a1 ⟨hz.1, hz.2.1⟩ | exact tail2 A' z ha (by rw [eB]; exact tnC_tf h74 (fl1 h86) (fl0 h96) hz.2.2) a1 ⟨hz.1, hz.2.1⟩ | exact tail2 A' z ha (by rw [eB]; exact tnC_tf h74 (fl0 h86) (fl1 h96) hz.2.2) a1 ⟨hz.1, hz.2.1⟩ | exact tail2 A' z ha (by rw [eB]; exact tnC_tf h74 (fl1 h86) (fl1 h96) hz.2.2) a1 ⟨hz.1, hz.2.1⟩ | exact tail2 A' i ha (by rw [eB]; exact tnC_1 h74) a1 ⟨i1, by omega⟩
          · refine ok_iconst 48 rfl rfl (by decide) (ok_goto 49 94 rfl rfl rfl (ok_iload_n 51 rfl rfl rfl (ok_iconst 52 rfl rfl (by decide) (ok_icmp_ne 53 103 rfl rfl rfl (fun h96 => ?_) (fun h96 => ?_)))))
            · refine ok_iconst 56 rfl rfl (by decide) (ok_iload_n 57 rfl rfl rfl (ok_iload 58 rfl rfl rfl (ok_callSI (M' := M_Mk_turnedFrom) (as := [_, _, _, _, _]) 59 rfl rfl ml_X2_48 (t_Mk_turnedFrom ⟨by omega, by omega⟩ (by omega) (by omega)) ⟨Nat.le_of_ble_eq_true rfl, Nat.le_of_ble_eq_true rfl⟩ rfl (Nat.le_of_ble_eq_true rfl) (fun σ' z hz => ?_))))
              obtain ⟨hs_, hz⟩ := hz
              rw [hs_]; clear hs_ σ'
              first | exact tail2 A' z ha (by rw [eB]; exact tnC_tf h74 (fl0 h86) (fl0 h96) hz.2.2) a1 ⟨hz.1, hz.2.1⟩ | exact tail2 A' z ha (by rw [eB]; exact tnC_tf h74 (fl1 h86) (fl0 h96) hz.2.2) a1 ⟨hz.1, hz.2.1⟩ | exact tail2 A' z ha (by rw [eB]; exact tnC_tf h74 (fl0 h86) (fl1 h96) hz.2.2) a1 ⟨hz.1, hz.2.1⟩ | exact tail2 A' z ha (by rw [eB]; exact tnC_tf h74 (fl1 h86) (fl1 h96) hz.2.2) a1 ⟨hz.1, hz.2.1⟩ | exact tail2 A' i ha (by rw [eB]; exact tnC_1 h74) a1 ⟨i1, by omega⟩
            · refine ok_iconst 54 rfl rfl (by decide) (ok_goto 55 104 rfl rfl rfl (ok_iload_n 57 rfl rfl rfl (ok_iload 58 rfl rfl rfl (ok_callSI (M' := M_Mk_turnedFrom) (as := [_, _, _, _, _]) 59 rfl rfl ml_X2_48 (t_Mk_turnedFrom ⟨by omega, by omega⟩ (by omega) (by omega)) ⟨Nat.le_of_ble_eq_true rfl, Nat.le_of_ble_eq_true rfl⟩ rfl (Nat.le_of_ble_eq_true rfl) (fun σ' z hz => ?_)))))
              obtain ⟨hs_, hz⟩ := hz
              rw [hs_]; clear hs_ σ'
              first | exact tail2 A' z ha (by rw [eB]; exact tnC_tf h74 (fl0 h86) (fl0 h96) hz.2.2) a1 ⟨hz.1, hz.2.1⟩ | exact tail2 A' z ha (by rw [eB]; exact tnC_tf h74 (fl1 h86) (fl0 h96) hz.2.2) a1 ⟨hz.1, hz.2.1⟩ | exact tail2 A' z ha (by rw [eB]; exact tnC_tf h74 (fl0 h86) (fl1 h96) hz.2.2) a1 ⟨hz.1, hz.2.1⟩ | exact tail2 A' z ha (by rw [eB]; exact tnC_tf h74 (fl1 h86) (fl1 h96) hz.2.2) a1 ⟨hz.1, hz.2.1⟩ | exact tail2 A' i ha (by rw [eB]; exact tnC_1 h74) a1 ⟨i1, by omega⟩
        · refine ok_iload 42 rfl rfl rfl (ok_goto 43 110 rfl rfl rfl ?_)
          first | exact tail2 A' z ha (by rw [eB]; exact tnC_tf h74 (fl0 h86) (fl0 h96) hz.2.2) a1 ⟨hz.1, hz.2.1⟩ | exact tail2 A' z ha (by rw [eB]; exact tnC_tf h74 (fl1 h86) (fl0 h96) hz.2.2) a1 ⟨hz.1, hz.2.1⟩ | exact tail2 A' z ha (by rw [eB]; exact tnC_tf h74 (fl0 h86) (fl1 h96) hz.2.2) a1 ⟨hz.1, hz.2.1⟩ | exact tail2 A' z ha (by rw [eB]; exact tnC_tf h74 (fl1 h86) (fl1 h96) hz.2.2) a1 ⟨hz.1, hz.2.1⟩ | exact tail2 A' i ha (by rw [eB]; exact tnC_1 h74) a1 ⟨i1, by omega⟩
      refine ok_iload_n 17 rfl rfl rfl (ok_iconst 18 rfl rfl (by decide) (ok_icmp_ne 19 42 rfl rfl rfl (fun h34 => ?_) (fun h34 => ?_)))
      · refine ok_iload 22 rfl rfl rfl (ok_iload_n 23 rfl rfl rfl (ok_iconst 24 rfl rfl (by decide) (ok_icmp_ne 25 53 rfl rfl rfl (fun h46 => ?_) (fun h46 => ?_))))
        · refine ok_iconst 28 rfl rfl (by decide) (ok_iload_n 29 rfl rfl rfl (ok_iconst 30 rfl rfl (by decide) (ok_icmp_ne 31 63 rfl rfl rfl (fun h56 => ?_) (fun h56 => ?_))))
          · refine ok_iconst 34 rfl rfl (by decide) (ok_iload_n 35 rfl rfl rfl (ok_iload 36 rfl rfl rfl (ok_callSI (M' := M_Mk_turnedFrom) (as := [_, _, _, _, _]) 37 rfl rfl ml_X2_48 (t_Mk_turnedFrom ⟨by omega, by omega⟩ (by omega) (by omega)) ⟨Nat.le_of_ble_eq_true rfl, Nat.le_of_ble_eq_true rfl⟩ rfl (Nat.le_of_ble_eq_true rfl) (fun σ' z hz => ?_))))
            obtain ⟨hs_, hz⟩ := hz
            rw [hs_]; clear hs_ σ'
            first | exact tail z (by rw [eA]; exact tnR_tf h34 (fl0 h46) (fl0 h56) hz.2.2) ⟨hz.1, hz.2.1⟩ | exact tail z (by rw [eA]; exact tnR_tf h34 (fl1 h46) (fl0 h56) hz.2.2) ⟨hz.1, hz.2.1⟩ | exact tail z (by rw [eA]; exact tnR_tf h34 (fl0 h46) (fl1 h56) hz.2.2) ⟨hz.1, hz.2.1⟩ | exact tail z (by rw [eA]; exact tnR_tf h34 (fl1 h46) (fl1 h56) hz.2.2) ⟨hz.1, hz.2.1⟩ | exact tail j (by rw [eA]; exact tnR_1 h34) ⟨j1, by omega⟩
          · refine ok_iconst 32 rfl rfl (by decide) (ok_goto 33 64 rfl rfl rfl (ok_iload_n 35 rfl rfl rfl (ok_iload 36 rfl rfl rfl (ok_callSI (M' := M_Mk_turnedFrom) (as := [_, _, _, _, _]) 37 rfl rfl ml_X2_48 (t_Mk_turnedFrom ⟨by omega, by omega⟩ (by omega) (by omega)) ⟨Nat.le_of_ble_eq_true rfl, Nat.le_of_ble_eq_true rfl⟩ rfl (Nat.le_of_ble_eq_true rfl) (fun σ' z hz => ?_)))))
            obtain ⟨hs_, hz⟩ := hz
            rw [hs_]; clear hs_ σ'
            first | exact tail z (by rw [eA]; exact tnR_tf h34 (fl0 h46) (fl0 h56) hz.2.2) ⟨hz.1, hz.2.1⟩ | exact tail z (by rw [eA]; exact tnR_tf h34 (fl1 h46) (fl0 h56) hz.2.2) ⟨hz.1, hz.2.1⟩ | exact tail z (by rw [eA]; exact tnR_tf h34 (fl0 h46) (fl1 h56) hz.2.2) ⟨hz.1, hz.2.1⟩ | exact tail z (by rw [eA]; exact tnR_tf h34 (fl1 h46) (fl1 h56) hz.2.2) ⟨hz.1, hz.2.1⟩ | exact tail j (by rw [eA]; exact tnR_1 h34) ⟨j1, by omega⟩
        · refine ok_iconst 26 rfl rfl (by decide) (ok_goto 27 54 rfl rfl rfl (ok_iload_n 29 rfl rfl rfl (ok_iconst 30 rfl rfl (by decide) (ok_icmp_ne 31 63 rfl rfl rfl (fun h56 => ?_) (fun h56 => ?_)))))
          · refine ok_iconst 34 rfl rfl (by decide) (ok_iload_n 35 rfl rfl rfl (ok_iload 36 rfl rfl rfl (ok_callSI (M' := M_Mk_turnedFrom) (as := [_, _, _, _, _]) 37 rfl rfl ml_X2_48 (t_Mk_turnedFrom ⟨by omega, by omega⟩ (by omega) (by omega)) ⟨Nat.le_of_ble_eq_true rfl, Nat.le_of_ble_eq_true rfl⟩ rfl (Nat.le_of_ble_eq_true rfl) (fun σ' z hz => ?_))))
            obtain ⟨hs_, hz⟩ := hz
            rw [hs_]; clear hs_ σ'
            first | exact tail z (by rw [eA]; exact tnR_tf h34 (fl0 h46) (fl0 h56) hz.2.2) ⟨hz.1, hz.2.1⟩ | exact tail z (by rw [eA]; exact tnR_tf h34 (fl1 h46) (fl0 h56) hz.2.2) ⟨hz.1, hz.2.1⟩ | exact tail z (by rw [eA]; exact tnR_tf h34 (fl0 h46) (fl1 h56) hz.2.2) ⟨hz.1, hz.2.1⟩ | exact tail z (by rw [eA]; exact tnR_tf h34 (fl1 h46) (fl1 h56) hz.2.2) ⟨hz.1, hz.2.1⟩ | exact tail j (by rw [eA]; exact tnR_1 h34) ⟨j1, by omega⟩
          · refine ok_iconst 32 rfl rfl (by decide) (ok_goto 33 64 rfl rfl rfl (ok_iload_n 35 rfl rfl rfl (ok_iload 36 rfl rfl rfl (ok_callSI (M' := M_Mk_turnedFrom) (as := [_, _, _, _, _]) 37 rfl rfl ml_X2_48 (t_Mk_turnedFrom ⟨by omega, by omega⟩ (by omega) (by omega)) ⟨Nat.le_of_ble_eq_true rfl, Nat.le_of_ble_eq_true rfl⟩ rfl (Nat.le_of_ble_eq_true rfl) (fun σ' z hz => ?_)))))
            obtain ⟨hs_, hz⟩ := hz
            rw [hs_]; clear hs_ σ'
            first | exact tail z (by rw [eA]; exact tnR_tf h34 (fl0 h46) (fl0 h56) hz.2.2) ⟨hz.1, hz.2.1⟩ | exact tail z (by rw [eA]; exact tnR_tf h34 (fl1 h46) (fl0 h56) hz.2.2) ⟨hz.1, hz.2.1⟩ | exact tail z (by rw [eA]; exact tnR_tf h34 (fl0 h46) (fl1 h56) hz.2.2) ⟨hz.1, hz.2.1⟩ | exact tail z (by rw [eA]; exact tnR_tf h34 (fl1 h46) (fl1 h56) hz.2.2) ⟨hz.1, hz.2.1⟩ | exact tail j (by rw [eA]; exact tnR_1 h34) ⟨j1, by omega⟩
      · refine ok_iload 20 rfl rfl rfl (ok_goto 21 70 rfl rfl rfl ?_)
        first | exact tail z (by rw [eA]; exact tnR_tf h34 (fl0 h46) (fl0 h56) hz.2.2) ⟨hz.1, hz.2.1⟩ | exact tail z (by rw [eA]; exact tnR_tf h34 (fl1 h46) (fl0 h56) hz.2.2) ⟨hz.1, hz.2.1⟩ | exact tail z (by rw [eA]; exact tnR_tf h34 (fl0 h46) (fl1 h56) hz.2.2) ⟨hz.1, hz.2.1⟩ | exact tail z (by rw [eA]; exact tnR_tf h34 (fl1 h46) (fl1 h56) hz.2.2) ⟨hz.1, hz.2.1⟩ | exact tail j (by rw [eA]; exact tnR_1 h34) ⟨j1, by omega⟩
