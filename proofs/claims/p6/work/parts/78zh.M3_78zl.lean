section
/-- which row, column of a table turned: where it comes from (tn), where it goes (tg) -/
def tnR (w r n i j : Int) : Int := if w = 1 then j else if w = 2 then n - 1 - i else if w = 4 then (if i < r then i else if i < n - 1 then i + 1 else r) else i
def tnC (w r n i j : Int) : Int := if w = 1 then i else if w = 3 then n - 1 - j else if w = 5 then (if j < r then j else if j < n - 1 then j + 1 else r) else j
def tgR (w r n i j : Int) : Int := if w = 1 then j else if w = 2 then n - 1 - i else if w = 4 then (if i < r then i else if i = r then n - 1 else i - 1) else i
def tgC (w r n i j : Int) : Int := if w = 1 then i else if w = 3 then n - 1 - j else if w = 5 then (if j < r then j else if j = r then n - 1 else j - 1) else j
theorem tnR_sp (w r n i j : Int) : (w = 1 → tnR w r n i j = j) ∧ (w = 2 → tnR w r n i j = n - 1 - i) ∧ (w = 4 → i < r → tnR w r n i j = i) ∧ (w = 4 → r ≤ i → i < n - 1 → tnR w r n i j = i + 1) ∧ (w = 4 → r ≤ i → n - 1 ≤ i → tnR w r n i j = r) ∧ (w ≠ 1 → w ≠ 2 → w ≠ 4 → tnR w r n i j = i) := by
  unfold tnR
  exact ⟨fun a => if_pos a, fun a => by rw [if_neg (by omega), if_pos a], fun a b => by rw [if_neg (by omega), if_neg (by omega), if_pos a, if_pos b], fun a b c => by rw [if_neg (by omega), if_neg (by omega), if_pos a, if_neg (by omega), if_pos c], fun a b c => by rw [if_neg (by omega), if_neg (by omega), if_pos a, if_neg (by omega), if_neg (by omega)], fun a b c => by rw [if_neg a, if_neg b, if_neg c]⟩
theorem tnC_sp (w r n i j : Int) : (w = 1 → tnC w r n i j = i) ∧ (w = 3 → tnC w r n i j = n - 1 - j) ∧ (w = 5 → j < r → tnC w r n i j = j) ∧ (w = 5 → r ≤ j → j < n - 1 → tnC w r n i j = j + 1) ∧ (w = 5 → r ≤ j → n - 1 ≤ j → tnC w r n i j = r) ∧ (w ≠ 1 → w ≠ 3 → w ≠ 5 → tnC w r n i j = j) := by
  unfold tnC
  exact ⟨fun a => if_pos a, fun a => by rw [if_neg (by omega), if_pos a], fun a b => by rw [if_neg (by omega), if_neg (by omega), if_pos a, if_pos b], fun a b c => by rw [if_neg (by omega), if_neg (by omega), if_pos a, if_neg (by omega), if_pos c], fun a b c => by rw [if_neg (by omega), if_neg (by omega), if_pos a, if_neg (by omega), if_neg (by omega)], fun a b c => by rw [if_neg a, if_neg b, if_neg c]⟩
theorem tgR_sp (w r n i j : Int) : (w = 1 → tgR w r n i j = j) ∧ (w = 2 → tgR w r n i j = n - 1 - i) ∧ (w = 4 → i < r → tgR w r n i j = i) ∧ (w = 4 → i = r → tgR w r n i j = n - 1) ∧ (w = 4 → r < i → tgR w r n i j = i - 1) ∧ (w ≠ 1 → w ≠ 2 → w ≠ 4 → tgR w r n i j = i) := by
  unfold tgR
  exact ⟨fun a => if_pos a, fun a => by rw [if_neg (by omega), if_pos a], fun a b => by rw [if_neg (by omega), if_neg (by omega), if_pos a, if_pos b], fun a b => by rw [if_neg (by omega), if_neg (by omega), if_pos a, if_neg (by omega), if_pos b], fun a b => by rw [if_neg (by omega), if_neg (by omega), if_pos a, if_neg (by omega), if_neg (by omega)], fun a b c => by rw [if_neg a, if_neg b, if_neg c]⟩
theorem tgC_sp (w r n i j : Int) : (w = 1 → tgC w r n i j = i) ∧ (w = 3 → tgC w r n i j = n - 1 - j) ∧ (w = 5 → j < r → tgC w r n i j = j) ∧ (w = 5 → j = r → tgC w r n i j = n - 1) ∧ (w = 5 → r < j → tgC w r n i j = j - 1) ∧ (w ≠ 1 → w ≠ 3 → w ≠ 5 → tgC w r n i j = j) := by
  unfold tgC
  exact ⟨fun a => if_pos a, fun a => by rw [if_neg (by omega), if_pos a], fun a b => by rw [if_neg (by omega), if_neg (by omega), if_pos a, if_pos b], fun a b => by rw [if_neg (by omega), if_neg (by omega), if_pos a, if_neg (by omega), if_pos b], fun a b => by rw [if_neg (by omega), if_neg (by omega), if_pos a, if_neg (by omega), if_neg (by omega)], fun a b c => by rw [if_neg a, if_neg b, if_neg c]⟩
theorem tn_tg {w r n p q : Int} (hw : 0 ≤ w ∧ w ≤ 5) (hr : 3 < w → 0 ≤ r ∧ r < n) (hp : 0 ≤ p ∧ p < n) (hq : 0 ≤ q ∧ q < n) : (0 ≤ tnR w r n p q ∧ tnR w r n p q < n) ∧ (0 ≤ tnC w r n p q ∧ tnC w r n p q < n) ∧ tgR w r n (tnR w r n p q) (tnC w r n p q) = p ∧ tgC w r n (tnR w r n p q) (tnC w r n p q) = q := by
  have a1 := tnR_sp w r n p q
  have a2 := tnC_sp w r n p q
  have a3 := tgR_sp w r n (tnR w r n p q) (tnC w r n p q)
  have a4 := tgC_sp w r n (tnR w r n p q) (tnC w r n p q)
  generalize tgR w r n (tnR w r n p q) (tnC w r n p q) = c at *
  generalize tgC w r n (tnR w r n p q) (tnC w r n p q) = d at *
  generalize tnR w r n p q = a at *
  generalize tnC w r n p q = b at *
  rcases (by omega : w = 0 ∨ w = 1 ∨ w = 2 ∨ w = 3 ∨ w = 4 ∨ w = 5) with x | x | x | x | x | x <;> subst x <;> simp at a1 a2 a3 a4 hr <;> omega
theorem tg_in {w r n i j : Int} (hw : 0 ≤ w ∧ w ≤ 5) (hr : 3 < w → 0 ≤ r ∧ r < n) (hp : 0 ≤ i ∧ i < n) (hq : 0 ≤ j ∧ j < n) : (0 ≤ tgR w r n i j ∧ tgR w r n i j < n) ∧ (0 ≤ tgC w r n i j ∧ tgC w r n i j < n) := by
  have a1 := tgR_sp w r n i j
  have a2 := tgC_sp w r n i j
  generalize tgR w r n i j = c at *
  generalize tgC w r n i j = d at *
  rcases (by omega : w = 0 ∨ w = 1 ∨ w = 2 ∨ w = 3 ∨ w = 4 ∨ w = 5) with x | x | x | x | x | x <;> subst x <;> simp at a1 a2 hr <;> omega
theorem tg_inj {w r n i j x y : Int} (hw : 0 ≤ w ∧ w ≤ 5) (hr : 3 < w → 0 ≤ r ∧ r < n) (hi : 0 ≤ i ∧ i < n) (hj : 0 ≤ j ∧ j < n) (hx : 0 ≤ x ∧ x < n) (hy : 0 ≤ y ∧ y < n) (e1 : tgR w r n i j = tgR w r n x y) (e2 : tgC w r n i j = tgC w r n x y) : i = x ∧ j = y := by
  have a1 := tgR_sp w r n i j
  have a2 := tgC_sp w r n i j
  have a3 := tgR_sp w r n x y
  have a4 := tgC_sp w r n x y
  rw [← e1] at a3
  rw [← e2] at a4
  generalize tgR w r n i j = c at *
  generalize tgC w r n i j = d at *
  rcases (by omega : w = 0 ∨ w = 1 ∨ w = 2 ∨ w = 3 ∨ w = 4 ∨ w = 5) with q | q | q | q | q | q <;> subst q <;> simp at a1 a2 a3 a4 hr <;> omega
theorem nx_inj {n a b c d : Int} (h1 : 0 ≤ b ∧ b < n) (h2 : 0 ≤ d ∧ d < n) (e : n * a + b = n * c + d) : a = c ∧ b = d := by
  rcases (by omega : a < c ∨ a = c ∨ c < a) with q | q | q
  · have := nx_lt (n := n) (x := a) (y := b) (i := c) h1.2 (by omega) q; omega
  · subst q; exact ⟨rfl, by omega⟩
  · have := nx_lt (n := n) (x := c) (y := d) (i := a) h2.2 (by omega) q; omega
theorem t_Mk_turnedFrom {σ : eS} {i b1 b2 r l : Int} (hi : 0 ≤ i ∧ i ≤ l) (hl : l ≤ 7) (hr : b2 ≠ 0 → 0 ≤ r ∧ r ≤ l) : MtI shA M_Mk_turnedFrom [vi i, vi b1, vi b2, vi r, vi l] σ (fun σ' z => σ' = σ ∧ 0 ≤ z ∧ z ≤ l ∧ (b1 ≠ 0 → z = l - i) ∧ (b1 = 0 → (b2 = 0 ∨ i < r) → z = i) ∧ (b1 = 0 → b2 ≠ 0 → r ≤ i → i < l → z = i + 1) ∧ (b1 = 0 → b2 ≠ 0 → r ≤ i → l ≤ i → z = r)) := by
  refine Mt.of okM_Mk_turnedFrom (Nat.le_of_ble_eq_true rfl) (fun hk hg => ?_)
  refine ok_iload_n 0 rfl rfl rfl (ok_if_eq 1 9 rfl rfl rfl (fun h1 => ?_) (fun h1 => ?_))
  · refine ok_iload_n 6 rfl rfl rfl (ok_if_eq 7 18 rfl rfl rfl (fun h10 => ?_) (fun h10 => ?_))
    · refine ok_iload_n 11 rfl rfl rfl (ok_iret 12 rfl rfl rfl ?_)
      exact ⟨_, rfl, rfl, by omega, by omega, by omega, by omega, by omega, by omega⟩
    · refine ok_iload_n 8 rfl rfl rfl (ok_iload_n 9 rfl rfl rfl (ok_icmp_ge 10 20 rfl rfl rfl (fun h15 => ?_) (fun h15 => ?_)))
      · refine ok_iload_n 13 rfl rfl rfl (ok_iload 14 rfl rfl rfl (ok_icmp_ge 15 32 rfl rfl rfl (fun h23 => ?_) (fun h23 => ?_)))
        · refine ok_iload_n 20 rfl rfl rfl (ok_iret 21 rfl rfl rfl ?_)
          exact ⟨_, rfl, rfl, by omega, by omega, by omega, by omega, by omega, by omega⟩
        · refine ok_iload_n 16 rfl rfl rfl (ok_iconst 17 rfl rfl (by decide) (ok_iadd 18 rfl rfl (by first | omega | (simp [up_if]; omega) | (simp [up_if] at *; omega)) (ok_goto 19 33 rfl rfl rfl (ok_iret 21 rfl rfl rfl ?_))))
          exact ⟨_, rfl, rfl, by omega, by omega, by omega, by omega, by omega, by omega⟩
      · refine ok_iload_n 11 rfl rfl rfl (ok_iret 12 rfl rfl rfl ?_)
        exact ⟨_, rfl, rfl, by omega, by omega, by omega, by omega, by omega, by omega⟩
  · refine ok_iload 2 rfl rfl rfl (ok_iload_n 3 rfl rfl rfl (ok_isub 4 rfl rfl (by first | omega | (simp [up_if]; omega) | (simp [up_if] at *; omega)) (ok_iret 5 rfl rfl rfl ?_)))
    exact ⟨_, rfl, rfl, by omega, by omega, by omega, by omega, by omega, by omega⟩
theorem fl1 {P : Prop} (h : P) : (1 : Int) ≠ 0 ↔ P := ⟨fun _ => h, fun _ => by decide⟩
theorem fl0 {P : Prop} (h : ¬ P) : (0 : Int) ≠ 0 ↔ P := ⟨fun q => absurd rfl q, fun q => absurd q h⟩
theorem tnR_tf {w r n i j z b1 b2 : Int} (h1 : ¬ w = 1) (hb1 : b1 ≠ 0 ↔ w = 2) (hb2 : b2 ≠ 0 ↔ w = 4) (hz : (b1 ≠ 0 → z = n - 1 - i) ∧ (b1 = 0 → (b2 = 0 ∨ i < r) → z = i) ∧ (b1 = 0 → b2 ≠ 0 → r ≤ i → i < n - 1 → z = i + 1) ∧ (b1 = 0 → b2 ≠ 0 → r ≤ i → n - 1 ≤ i → z = r)) : z = tnR w r n i j := by
  obtain ⟨z1, z2, z3, z4⟩ := hz
  unfold tnR
  rw [if_neg h1]
  by_cases c : w = 2
  · rw [if_pos c]; exact z1 (hb1.mpr c)
  · rw [if_neg c]
    have b10 : b1 = 0 := Classical.not_not.mp (fun q => c (hb1.mp q))
    by_cases d : w = 4
    · rw [if_pos d]
      have b2n := hb2.mpr d
      by_cases e : i < r
      · rw [if_pos e]; exact z2 b10 (Or.inr e)
      · rw [if_neg e]
        by_cases f : i < n - 1
        · rw [if_pos f]; exact z3 b10 b2n (Int.not_lt.mp e) f
        · rw [if_neg f]; exact z4 b10 b2n (Int.not_lt.mp e) (Int.not_lt.mp f)
    · rw [if_neg d]; exact z2 b10 (Or.inl (Classical.not_not.mp (fun q => d (hb2.mp q))))
theorem tnC_tf {w r n i j z b1 b2 : Int} (h1 : ¬ w = 1) (hb1 : b1 ≠ 0 ↔ w = 3) (hb2 : b2 ≠ 0 ↔ w = 5) (hz : (b1 ≠ 0 → z = n - 1 - j) ∧ (b1 = 0 → (b2 = 0 ∨ j < r) → z = j) ∧ (b1 = 0 → b2 ≠ 0 → r ≤ j → j < n - 1 → z = j + 1) ∧ (b1 = 0 → b2 ≠ 0 → r ≤ j → n - 1 ≤ j → z = r)) : z = tnC w r n i j := by
  obtain ⟨z1, z2, z3, z4⟩ := hz
  unfold tnC
  rw [if_neg h1]
  by_cases c : w = 3
  · rw [if_pos c]; exact z1 (hb1.mpr c)
  · rw [if_neg c]
    have b10 : b1 = 0 := Classical.not_not.mp (fun q => c (hb1.mp q))
    by_cases d : w = 5
    · rw [if_pos d]
      have b2n := hb2.mpr d
      by_cases e : j < r
      · rw [if_pos e]; exact z2 b10 (Or.inr e)
      · rw [if_neg e]
        by_cases f : j < n - 1
        · rw [if_pos f]; exact z3 b10 b2n (Int.not_lt.mp e) f
        · rw [if_neg f]; exact z4 b10 b2n (Int.not_lt.mp e) (Int.not_lt.mp f)
    · rw [if_neg d]; exact z2 b10 (Or.inl (Classical.not_not.mp (fun q => d (hb2.mp q))))
section TG
variable {w r n i j z : Int}
theorem tnR_1 (h : w = 1) : j = tnR w r n i j := by unfold tnR; rw [if_pos h]
theorem tnC_1 (h : w = 1) : i = tnC w r n i j := by unfold tnC; rw [if_pos h]
theorem tgR_1 (h : w = 1) : j = tgR w r n i j := by unfold tgR; rw [if_pos h]
theorem tgR_2 (h : ¬ w = 1) (h2 : w = 2) : n - 1 - i = tgR w r n i j := by unfold tgR; rw [if_neg h, if_pos h2]
theorem tgR_4 (h : ¬ w = 1) (h2 : ¬ w = 2) (h4 : w = 4) (q : z = if i < r then i else if i = r then n - 1 else i - 1) : z = tgR w r n i j := by unfold tgR; rw [if_neg h, if_neg h2, if_pos h4]; exact q
theorem tgR_0 (h : ¬ w = 1) (h2 : ¬ w = 2) (h4 : ¬ w = 4) : i = tgR w r n i j := by unfold tgR; rw [if_neg h, if_neg h2, if_neg h4]
theorem tgC_1 (h : w = 1) : i = tgC w r n i j := by unfold tgC; rw [if_pos h]
theorem tgC_3 (h : ¬ w = 1) (h2 : w = 3) : n - 1 - j = tgC w r n i j := by unfold tgC; rw [if_neg h, if_pos h2]
theorem tgC_5 (h : ¬ w = 1) (h2 : ¬ w = 3) (h4 : w = 5) (q : z = if j < r then j else if j = r then n - 1 else j - 1) : z = tgC w r n i j := by unfold tgC; rw [if_neg h, if_neg h2, if_pos h4]; exact q
theorem tgC_0 (h : ¬ w = 1) (h2 : ¬ w = 3) (h4 : ¬ w = 5) : j = tgC w r n i j := by unfold tgC; rw [if_neg h, if_neg h2, if_neg h4]
end TG
def tuF (σ : eS) (t : Nat) (w r n : Int) : Int → Int → Int := fun i j => cT σ t (tnR w r n i j) (tnC w r n i j)
theorem t_Mk_makeTurned {σ : eS} {t u : Nat} {w r : Int} (ht : tA t) (hu : tA u) (hS : iSu σ) (hT : iT σ t) (hU : iT σ u) (hM : mT σ u) (hn : σ t 1 ≠ 0) (hr : 3 < w → 0 ≤ r ∧ r < σ t 1) (hw : 0 ≤ w ∧ w ≤ 5) : MtI shA M_Mk_makeTurned [vr 14, vr t, vi w, vi r, vr u] σ (fun σ' z => (fr (fun c _ => c = 15 ∨ c = u ∨ c = u + 4) σ σ' ∧ iT σ' u ∧ mT σ' u ∧ iSu σ' ∧ (z = 0 ∨ z = 1)) ∧ MA σ u (σ t 1) (σ t 2) (tuF σ t w r (σ t 1)) σ' z) := by
  refine Mt.of okM_Mk_makeTurned (Nat.le_of_ble_eq_true rfl) (fun hk hg => ?_)
  have nA := tA_10 ht
  have nB := tA_10 hu
  have n1 := hT.1
  have n2 := hT.2.1
  have hB := hT.2.2.1 (by omega)
  refine ok_aload_n 0 rfl rfl rfl (ok_getI 1 rfl rfl fl_X2_31 (sT ht) rfl (Or.inl rfl) (ok_iconst 2 rfl rfl (by decide) (ok_isub 3 rfl rfl (by first | omega | (simp [up_if]; omega) | (simp [up_if] at *; omega)) (ok_ist5 4 rfl rfl rfl (ok_iconst 5 rfl rfl (by decide) (ok_ist6 6 rfl rfl rfl ?_))))))
  refine lpO2 (fun (i : Int) (_ : eS) => [some (vr 14), some (vr t), some (vi w), some (vi r), some (vr u), some (vi (σ t 1 - 1)), some (vi i), none, none, none]) (fun _ ρ => ρ) (fun i ρ => 0 ≤ i ∧ i ≤ 8 ∧ fr rgSu σ ρ ∧ iSu ρ ∧ ∀ X Y, 0 ≤ X → X < i → 0 ≤ Y → Y < σ t 1 → ρ 15 (X * 8 + Y) = tuF σ t w r (σ t 1) X Y) (fun i _ => (8 - i).toNat) ?_ 0 σ ⟨by omega, by omega, fr.rf, hS, fun X Y p q => by omega⟩
  rintro i ρ ⟨i1, i2, f, hS1, hX⟩ ih
  have e1 : ρ t 1 = σ t 1 := f t 1 (by simp only [rgSu]; omega)
  refine ok_iload 7 rfl rfl rfl (ok_aload_n 8 rfl rfl rfl (ok_getI 9 rfl rfl fl_X2_31 (sT ht) rfl (Or.inl rfl) (ok_icmp_ge 10 151 rfl rfl rfl (fun h17 => ?_) (fun h17 => ?_))))
  · have e2 : ρ t 2 = σ t 2 := f t 2 (by simp only [rgSu]; omega)
    have x1 : ∀ k, ρ (u + 4) k = σ (u + 4) k := fun k => f _ _ (by simp only [rgSu]; omega)
    have x2 : ∀ k, ρ u k = σ u k := fun k => f _ _ (by simp only [rgSu]; omega)
    refine ok_aload_n 82 rfl rfl rfl (ok_aload_n 83 rfl rfl rfl (ok_getI 84 rfl rfl fl_X2_15 (sT ht) rfl (Or.inl rfl) (ok_i2l 85 rfl rfl (ok_aload_n 86 rfl rfl rfl (ok_getI 87 rfl rfl fl_X2_31 (sT ht) rfl (Or.inl rfl) (ok_aload 88 rfl rfl rfl (ok_callVI (M' := M_Mk_bring) (as := [_, _, _]) 89 rfl rfl ml_X2_44 (t_Mk_bring hu (by omega) ⟨by omega, by omega⟩ hS1 (iT_cg hU (x2 1) (x2 2) x1).1 (mT_cg hM (x2 1) (x2 3) x1)) rfl rfl (Nat.le_of_ble_eq_true rfl) ⟨Nat.le_of_ble_eq_true rfl, Nat.le_of_ble_eq_true rfl⟩ rfl (Nat.le_of_ble_eq_true rfl) (fun τ z hz => ?_))))))))
    refine ok_zret 90 rfl rfl rfl hz.2.2.2.1 ?_
    refine ⟨_, rfl, ⟨(f.mono (fun c k q => by simp only [rgSu] at q; omega)).tr (hz.1.mono (fun c k q => by simp only [rgBr] at q; omega)), hz.2.1, hz.2.2.1, iSu_cg hS1 (fun k => hz.1 15 k (by simp only [rgBr]; omega)), hz.2.2.2.1⟩, ?_⟩
    have hm := hz.2.2.2.2
    rw [e1, e2] at hm
    exact MA_cg hm (fun c k p q => f c k (by simp only [rgSu]; omega)) (fun X Y p q r s => hX X Y p (by omega) r s)
  · refine ok_iconst 11 rfl rfl (by decide) (ok_ist7 12 rfl rfl rfl ?_)
    have il : i < σ t 1 := by omega
    clear h17
    refine lpO2 (fun (j : Int) (_ : eS) => [some (vr 14), some (vr t), some (vi w), some (vi r), some (vr u), some (vi (σ t 1 - 1)), some (vi i), some (vi j), none, none]) (fun _ ρ => ρ) (fun j ρ => 0 ≤ j ∧ j ≤ 8 ∧ fr rgSu σ ρ ∧ iSu ρ ∧ ∀ X Y, 0 ≤ X → 0 ≤ Y → Y < σ t 1 → (X < i ∨ (X = i ∧ Y < j)) → ρ 15 (X * 8 + Y) = tuF σ t w r (σ t 1) X Y) (fun j _ => (8 - j).toNat) ?_ 0 ρ ⟨by omega, by omega, f, hS1, fun X Y p q r s => hX X Y p (by omega) q r⟩
    clear e1 f hS1 hX ρ
    rintro j ρ ⟨j1, j2, f, hS1, hX⟩ ih2
    have e1 : ρ t 1 = σ t 1 := f t 1 (by simp only [rgSu]; omega)
    refine ok_iload 13 rfl rfl rfl (ok_aload_n 14 rfl rfl rfl (ok_getI 15 rfl rfl fl_X2_31 (sT ht) rfl (Or.inl rfl) (ok_icmp_ge 16 145 rfl rfl rfl (fun h29 => ?_) (fun h29 => ?_))))
    · refine ok_inc6 80 rfl rfl rfl (by first | omega | (simp [up_if]; omega) | (simp [up_if] at *; omega)) (ok_goto 81 11 rfl rfl rfl ?_)
      exact ok_fg [some (vr 14), some (vr t), some (vi w), some (vi r), some (vr u), some (vi (σ t 1 - 1)), some (vi (i + 1)), none, none, none] ⟨rfl, rfl, rfl, rfl, rfl, rfl, rfl, trivial⟩ (ih (i + 1) ρ ⟨by omega, by omega, f, hS1, fun X Y p q r s => hX X Y p r s (by omega)⟩ (by omega))
    · have jl : j < σ t 1 := by omega
      clear h29
      obtain ⟨A, eA⟩ : ∃ A, A = tnR w r (σ t 1) i j := ⟨_, rfl⟩
      obtain ⟨B, eB⟩ : ∃ B, B = tnC w r (σ t 1) i j := ⟨_, rfl⟩
      have tail2 : ∀ A' B' : Int, A' = A → B' = B → (0 ≤ A' ∧ A' ≤ σ t 1 - 1) → (0 ≤ B' ∧ B' ≤ σ t 1 - 1) → Ok shA M_Mk_makeTurned 110 [some (vr 14), some (vr t), some (vi w), some (vi r), some (vr u), some (vi (σ t 1 - 1)), some (vi i), some (vi j), some (vi A'), none] [vi B'] ρ (fun σ' v => ∃ z, v = some (vi z) ∧ (fr (fun c _ => c = 15 ∨ c = u ∨ c = u + 4) σ σ' ∧ iT σ' u ∧ mT σ' u ∧ iSu σ' ∧ (z = 0 ∨ z = 1)) ∧ MA σ u (σ t 1) (σ t 2) (tuF σ t w r (σ t 1)) σ' z) := by
        intro A' B' ha hb a1 b1
        refine ok_ist9 60 rfl rfl rfl (ok_aload_n 61 rfl rfl rfl (ok_getR 62 rfl rfl fl_X2_9 rfl rfl (ok_iload 63 rfl rfl rfl (ok_bipush 64 rfl rfl (by decide) (by decide) (ok_imul 65 rfl rfl (by first | omega | (simp [up_if]; omega) | (simp [up_if] at *; omega)) (ok_iload 66 rfl rfl rfl (ok_iadd 67 rfl rfl (by first | omega | (simp [up_if]; omega) | (simp [up_if] at *; omega)) (ok_aload_n 68 rfl rfl rfl (ok_getR 69 rfl rfl fl_X2_34 (sT ht) rfl (ok_iload 70 rfl rfl rfl (ok_bipush 71 rfl rfl (by decide) (by decide) (ok_imul 72 rfl rfl (by first | omega | (simp [up_if]; omega) | (simp [up_if] at *; omega)) (ok_iload 73 rfl rfl rfl (ok_iadd 74 rfl rfl (by first | omega | (simp [up_if]; omega) | (simp [up_if] at *; omega)) (ok_iald 75 rfl rfl (sC ht) (by first | omega | (simp [up_if]; omega) | (simp [up_if] at *; omega)) (ok_i2l 76 rfl rfl (ok_last 77 rfl rfl rfl (by first | omega | (simp [up_if]; omega) | (simp [up_if] at *; omega)) (ok_inc7 78 rfl rfl rfl (by first | omega | (simp [up_if]; omega) | (simp [up_if] at *; omega)) (ok_goto 79 23 rfl rfl rfl ?_)))))))))))))))))))
        have cb := hT.2.2.2 (A' * 8 + B') (by omega) (by omega)
        have cq := f (t + 4) (A' * 8 + B') (by simp only [rgSu]; omega)
        rw [← cq] at cb
        refine ok_fg [some (vr 14), some (vr t), some (vi w), some (vi r), some (vr u), some (vi (σ t 1 - 1)), some (vi i), some (vi (j + 1)), none, none] ⟨rfl, rfl, rfl, rfl, rfl, rfl, rfl, rfl, trivial⟩ (ih2 (j + 1) _ ⟨by omega, by omega, fr_up f rfl, up_su hS1 cb.1, fun X Y p q r' s => ?_⟩ (by omega))
        rcases (by omega : (X < i ∨ (X = i ∧ Y < j)) ∨ (X = i ∧ Y = j)) with x | x
        · rw [up_nk _ _ _ _ (by omega)]; exact hX X Y p q r' x
        · rw [x.1, x.2, up_same, cq, ha, hb, eA, eB]; rfl
      have tail : ∀ A' : Int, A' = A → (0 ≤ A' ∧ A' ≤ σ t 1 - 1) → Ok shA M_Mk_makeTurned 70 [some (vr 14), some (vr t), some (vi w), some (vi r), some (vr u), some (vi (σ t 1 - 1)), some (vi i), some (vi j), none, none] [vi A'] ρ (fun σ' v => ∃ z, v = some (vi z) ∧ (fr (fun c _ => c = 15 ∨ c = u ∨ c = u + 4) σ σ' ∧ iT σ' u ∧ mT σ' u ∧ iSu σ' ∧ (z = 0 ∨ z = 1)) ∧ MA σ u (σ t 1) (σ t 2) (tuF σ t w r (σ t 1)) σ' z) := by
        intro A' ha a1
        refine ok_ist8 38 rfl rfl rfl (ok_iload_n 39 rfl rfl rfl (ok_iconst 40 rfl rfl (by decide) (ok_icmp_ne 41 82 rfl rfl rfl (fun h74 => ?_) (fun h74 => ?_))))
        · refine ok_iload 44 rfl rfl rfl (ok_iload_n 45 rfl rfl rfl (ok_iconst 46 rfl rfl (by decide) (ok_icmp_ne 47 93 rfl rfl rfl (fun h86 => ?_) (fun h86 => ?_))))
          · refine ok_iconst 50 rfl rfl (by decide) (ok_iload_n 51 rfl rfl rfl (ok_iconst 52 rfl rfl (by decide) (ok_icmp_ne 53 103 rfl rfl rfl (fun h96 => ?_) (fun h96 => ?_))))
            · refine ok_iconst 56 rfl rfl (by decide) (ok_iload_n 57 rfl rfl rfl (ok_iload 58 rfl rfl rfl (ok_callSI (M' := M_Mk_turnedFrom) (as := [_, _, _, _, _]) 59 rfl rfl ml_X2_48 (t_Mk_turnedFrom ⟨by omega, by omega⟩ (by omega) (by omega)) ⟨Nat.le_of_ble_eq_true rfl, Nat.le_of_ble_eq_true rfl⟩ rfl (Nat.le_of_ble_eq_true rfl) (fun σ' z hz => ?_))))
              obtain ⟨hs_, hz⟩ := hz
              rw [hs_]; clear hs_ σ'
              first | exact tail2 A' z ha (by rw [eB]; exact tnC_tf h74 (fl0 h86) (fl0 h96) hz.2.2) a1 ⟨hz.1, hz.2.1⟩ | exact tail2 A' z ha (by rw [eB]; exact tnC_tf h74 (fl1 h86) (fl0 h96) hz.2.2) a1 ⟨hz.1, hz.2.1⟩ | exact tail2 A' z ha (by rw [eB]; exact tnC_tf h74 (fl0 h86) (fl1 h96) hz.2.2) a1 ⟨hz.1, hz.2.1⟩ | exact tail2 A' z ha (by rw [eB]; exact tnC_tf h74 (fl1 h86) (fl1 h96) hz.2.2) a1 ⟨hz.1, hz.2.1⟩ | exact tail2 A' i ha (by rw [eB]; exact tnC_1 h74) a1 ⟨i1, by omega⟩
            · refine ok_iconst 54 rfl rfl (by decide) (ok_goto 55 104 rfl rfl rfl (ok_iload_n 57 rfl rfl rfl (ok_iload 58 rfl rfl rfl (ok_callSI (M' := M_Mk_turnedFrom) (as := [_, _, _, _, _]) 59 rfl rfl ml_X2_48 (t_Mk_turnedFrom ⟨by omega, by omega⟩ (by omega) (by omega)) ⟨Nat.le_of_ble_eq_true rfl, Nat.le_of_ble_eq_true rfl⟩ rfl (Nat.le_of_ble_eq_true rfl) (fun σ' z hz => ?_)))))
              obtain ⟨hs_, hz⟩ := hz
              rw [hs_]; clear hs_ σ'
              first | exact tail2 A' z ha (by rw [eB]; exact tnC_tf h74 (fl0 h86) (fl0 h96) hz.2.2) a1 ⟨hz.1, hz.2.1⟩ | exact tail2 A' z ha (by rw [eB]; exact tnC_tf h74 (fl1 h86) (fl0 h96) hz.2.2) a1 ⟨hz.1, hz.2.1⟩ | exact tail2 A' z ha (by rw [eB]; exact tnC_tf h74 (fl0 h86) (fl1 h96) hz.2.2) a1 ⟨hz.1, hz.2.1⟩ | exact tail2 A' z ha (by rw [eB]; exact tnC_tf h74 (fl1 h86) (fl1 h96) hz.2.2) a1 ⟨hz.1, hz.2.1⟩ | exact tail2 A' i ha (by rw [eB]; exact tnC_1 h74) a1 ⟨i1, by omega⟩
          · refine ok_iconst 48 rfl rfl (by decide) (ok_goto 49 94 rfl rfl rfl (ok_iload_n 51 rfl rfl rfl (ok_iconst 52 rfl rfl (by decide) (ok_icmp_ne 53 103 rfl rfl rfl (fun h96 => ?_) (fun h96 => ?_)))))
            · refine ok_iconst 56 rfl rfl (by decide) (ok_iload_n 57 rfl rfl rfl (ok_iload 58 rfl rfl rfl (ok_callSI (M' := M_Mk_turnedFrom) (as := [_, _, _, _, _]) 59 rfl rfl ml_X2_48 (t_Mk_turnedFrom ⟨by omega, by omega⟩ (by omega) (by omega)) ⟨Nat.le_of_ble_eq_true rfl, Nat.le_of_ble_eq_true rfl⟩ rfl (Nat.le_of_ble_eq_true rfl) (fun σ' z hz => ?_))))
              obtain ⟨hs_, hz⟩ := hz
              rw [hs_]; clear hs_ σ'
              first | exact tail2 A' z ha (by rw [eB]; exact tnC_tf h74 (fl0 h86) (fl0 h96) hz.2.2) a1 ⟨hz.1, hz.2.1⟩ | exact tail2 A' z ha (by rw [eB]; exact tnC_tf h74 (fl1 h86) (fl0 h96) hz.2.2) a1 ⟨hz.1, hz.2.1⟩ | exact tail2 A' z ha (by rw [eB]; exact tnC_tf h74 (fl0 h86) (fl1 h96) hz.2.2) a1 ⟨hz.1, hz.2.1⟩ | exact tail2 A' z ha (by rw [eB]; exact tnC_tf h74 (fl1 h86) (fl1 h96) hz.2.2) a1 ⟨hz.1, hz.2.1⟩ | exact tail2 A' i ha (by rw [eB]; exact tnC_1 h74) a1 ⟨i1, by omega⟩
            · refine ok_iconst 54 rfl rfl (by decide) (ok_goto 55 104 rfl rfl rfl (ok_iload_n 57 rfl rfl rfl (ok_iload 58 rfl rfl rfl (ok_callSI (M' := M_Mk_turnedFrom) (as := [_, _, _, _, _]) 59 rfl rfl ml_X2_48 (t_Mk_turnedFrom ⟨by omega, by omega⟩ (by omega) (by omega)) ⟨Nat.le_of_ble_eq_true rfl, Nat.le_of_ble_eq_true rfl⟩ rfl (Nat.le_of_ble_eq_true rfl) (fun σ' z hz => ?_)))))
              obtain ⟨hs_, hz⟩ := hz
              rw [hs_]; clear hs_ σ'
              first | exact tail2 A' z ha (by rw [eB]; exact tnC_tf h74 (fl0 h86) (fl0 h96) hz.2.2) a1 ⟨hz.1, hz.2.1⟩ | exact tail2 A' z ha (by rw [eB]; exact tnC_tf h74 (fl1 h86) (fl0 h96) hz.2.2) a1 ⟨hz.1, hz.2.1⟩ | exact tail2 A' z ha (by rw [eB]; exact tnC_tf h74 (fl0 h86) (fl1 h96) hz.2.2) a1 ⟨hz.1, hz.2.1⟩ | exact tail2 A' z ha (by rw [eB]; exact tnC_tf h74 (fl1 h86) (fl1 h96) hz.2.2) a1 ⟨hz.1, hz.2.1⟩ | exact tail2 A' i ha (by rw [eB]; exact tnC_1 h74) a1 ⟨i1, by omega⟩
        · refine ok_iload 42 rfl rfl rfl (ok_goto 43 110 rfl rfl rfl ?_)
          first | exact tail2 A' z ha (by rw [eB]; exact tnC_tf h74 (fl0 h86) (fl0 h96) hz.2.2) a1 ⟨hz.1, hz.2.1⟩ | exact tail2 A' z ha (by rw [eB]; exact tnC_tf h74 (fl1 h86) (fl0 h96) hz.2.2) a1 ⟨hz.1, hz.2.1⟩ | exact tail2 A' z ha (by rw [eB]; exact tnC_tf h74 (fl0 h86) (fl1 h96) hz.2.2) a1 ⟨hz.1, hz.2.1⟩ | exact tail2 A' z ha (by rw [eB]; exact tnC_tf h74 (fl1 h86) (fl1 h96) hz.2.2) a1 ⟨hz.1, hz.2.1⟩ | exact tail2 A' i ha (by rw [eB]; exact tnC_1 h74) a1 ⟨i1, by omega⟩
      refine ok_iload_n 17 rfl rfl rfl (ok_iconst 18 rfl rfl (by decide) (ok_icmp_ne 19 42 rfl rfl rfl (fun h34 => ?_) (fun h34 => ?_)))
      · refine ok_iload 22 rfl rfl rfl (ok_iload_n 23 rfl rfl rfl (ok_iconst 24 rfl rfl (by decide) (ok_icmp_ne 25 53 rfl rfl rfl (fun h46 => ?_) (fun h46 => ?_))))
        · refine ok_iconst 28 rfl rfl (by decide) (ok_iload_n 29 rfl rfl rfl (ok_iconst 30 rfl rfl (by decide) (ok_icmp_ne 31 63 rfl rfl rfl (fun h56 => ?_) (fun h56 => ?_))))
          · refine ok_iconst 34 rfl rfl (by decide) (ok_iload_n 35 rfl rfl rfl (ok_iload 36 rfl rfl rfl (ok_callSI (M' := M_Mk_turnedFrom) (as := [_, _, _, _, _]) 37 rfl rfl ml_X2_48 (t_Mk_turnedFrom ⟨by omega, by omega⟩ (by omega) (by omega)) ⟨Nat.le_of_ble_eq_true rfl, Nat.le_of_ble_eq_true rfl⟩ rfl (Nat.le_of_ble_eq_true rfl) (fun σ' z hz => ?_))))
            obtain ⟨hs_, hz⟩ := hz
            rw [hs_]; clear hs_ σ'
            first | exact tail z (by rw [eA]; exact tnR_tf h34 (fl0 h46) (fl0 h56) hz.2.2) ⟨hz.1, hz.2.1⟩ | exact tail z (by rw [eA]; exact tnR_tf h34 (fl1 h46) (fl0 h56) hz.2.2) ⟨hz.1, hz.2.1⟩ | exact tail z (by rw [eA]; exact tnR_tf h34 (fl0 h46) (fl1 h56) hz.2.2) ⟨hz.1, hz.2.1⟩ | exact tail z (by rw [eA]; exact tnR_tf h34 (fl1 h46) (fl1 h56) hz.2.2) ⟨hz.1, hz.2.1⟩ | exact tail j (by rw [eA]; exact tnR_1 h34) ⟨j1, by omega⟩
          · refine ok_iconst 32 rfl rfl (by decide) (ok_goto 33 64 rfl rfl rfl (ok_iload_n 35 rfl rfl rfl (ok_iload 36 rfl rfl rfl (ok_callSI (M' := M_Mk_turnedFrom) (as := [_, _, _, _, _]) 37 rfl rfl ml_X2_48 (t_Mk_turnedFrom ⟨by omega, by omega⟩ (by omega) (by omega)) ⟨Nat.le_of_ble_eq_true rfl, Nat.le_of_ble_eq_true rfl⟩ rfl (Nat.le_of_ble_eq_true rfl) (fun σ' z hz => ?_)))))
            obtain ⟨hs_, hz⟩ := hz
            rw [hs_]; clear hs_ σ'
            first | exact tail z (by rw [eA]; exact tnR_tf h34 (fl0 h46) (fl0 h56) hz.2.2) ⟨hz.1, hz.2.1⟩ | exact tail z (by rw [eA]; exact tnR_tf h34 (fl1 h46) (fl0 h56) hz.2.2) ⟨hz.1, hz.2.1⟩ | exact tail z (by rw [eA]; exact tnR_tf h34 (fl0 h46) (fl1 h56) hz.2.2) ⟨hz.1, hz.2.1⟩ | exact tail z (by rw [eA]; exact tnR_tf h34 (fl1 h46) (fl1 h56) hz.2.2) ⟨hz.1, hz.2.1⟩ | exact tail j (by rw [eA]; exact tnR_1 h34) ⟨j1, by omega⟩
        · refine ok_iconst 26 rfl rfl (by decide) (ok_goto 27 54 rfl rfl rfl (ok_iload_n 29 rfl rfl rfl (ok_iconst 30 rfl rfl (by decide) (ok_icmp_ne 31 63 rfl rfl rfl (fun h56 => ?_) (fun h56 => ?_)))))
          · refine ok_iconst 34 rfl rfl (by decide) (ok_iload_n 35 rfl rfl rfl (ok_iload 36 rfl rfl rfl (ok_callSI (M' := M_Mk_turnedFrom) (as := [_, _, _, _, _]) 37 rfl rfl ml_X2_48 (t_Mk_turnedFrom ⟨by omega, by omega⟩ (by omega) (by omega)) ⟨Nat.le_of_ble_eq_true rfl, Nat.le_of_ble_eq_true rfl⟩ rfl (Nat.le_of_ble_eq_true rfl) (fun σ' z hz => ?_))))
            obtain ⟨hs_, hz⟩ := hz
            rw [hs_]; clear hs_ σ'
            first | exact tail z (by rw [eA]; exact tnR_tf h34 (fl0 h46) (fl0 h56) hz.2.2) ⟨hz.1, hz.2.1⟩ | exact tail z (by rw [eA]; exact tnR_tf h34 (fl1 h46) (fl0 h56) hz.2.2) ⟨hz.1, hz.2.1⟩ | exact tail z (by rw [eA]; exact tnR_tf h34 (fl0 h46) (fl1 h56) hz.2.2) ⟨hz.1, hz.2.1⟩ | exact tail z (by rw [eA]; exact tnR_tf h34 (fl1 h46) (fl1 h56) hz.2.2) ⟨hz.1, hz.2.1⟩ | exact tail j (by rw [eA]; exact tnR_1 h34) ⟨j1, by omega⟩
          · refine ok_iconst 32 rfl rfl (by decide) (ok_goto 33 64 rfl rfl rfl (ok_iload_n 35 rfl rfl rfl (ok_iload 36 rfl rfl rfl (ok_callSI (M' := M_Mk_turnedFrom) (as := [_, _, _, _, _]) 37 rfl rfl ml_X2_48 (t_Mk_turnedFrom ⟨by omega, by omega⟩ (by omega) (by omega)) ⟨Nat.le_of_ble_eq_true rfl, Nat.le_of_ble_eq_true rfl⟩ rfl (Nat.le_of_ble_eq_true rfl) (fun σ' z hz => ?_)))))
            obtain ⟨hs_, hz⟩ := hz
            rw [hs_]; clear hs_ σ'
            first | exact tail z (by rw [eA]; exact tnR_tf h34 (fl0 h46) (fl0 h56) hz.2.2) ⟨hz.1, hz.2.1⟩ | exact tail z (by rw [eA]; exact tnR_tf h34 (fl1 h46) (fl0 h56) hz.2.2) ⟨hz.1, hz.2.1⟩ | exact tail z (by rw [eA]; exact tnR_tf h34 (fl0 h46) (fl1 h56) hz.2.2) ⟨hz.1, hz.2.1⟩ | exact tail z (by rw [eA]; exact tnR_tf h34 (fl1 h46) (fl1 h56) hz.2.2) ⟨hz.1, hz.2.1⟩ | exact tail j (by rw [eA]; exact tnR_1 h34) ⟨j1, by omega⟩
      · refine ok_iload 20 rfl rfl rfl (ok_goto 21 70 rfl rfl rfl ?_)
        first | exact tail z (by rw [eA]; exact tnR_tf h34 (fl0 h46) (fl0 h56) hz.2.2) ⟨hz.1, hz.2.1⟩ | exact tail z (by rw [eA]; exact tnR_tf h34 (fl1 h46) (fl0 h56) hz.2.2) ⟨hz.1, hz.2.1⟩ | exact tail z (by rw [eA]; exact tnR_tf h34 (fl0 h46) (fl1 h56) hz.2.2) ⟨hz.1, hz.2.1⟩ | exact tail z (by rw [eA]; exact tnR_tf h34 (fl1 h46) (fl1 h56) hz.2.2) ⟨hz.1, hz.2.1⟩ | exact tail j (by rw [eA]; exact tnR_1 h34) ⟨j1, by omega⟩
end
section
def shr (x y : Int) : Prop := 0 ≤ x ∧ x ≤ 9999 ∧ 1 ≤ y ∧ y ≤ 9999
def XmA (σ : eS) (s x y o u v w : Int) (σ' : eS) (z : Int) : Prop := (z = 0 ∧ tbS σ σ' ∧ ¬ (shr x y ∧ shr u v ∧ likeA σ s o w)) ∨ ((shr x y ∧ shr u v ∧ likeA σ s o w) ∧ MXA σ (s.toNat + 2) (o.toNat + 2) (w.toNat + 2) x y u v σ' z)
def XtA (σ : eS) (s o w : Int) (σ' : eS) (z : Int) : Prop := (z = 0 ∧ tbS σ σ' ∧ ¬ likeA σ s o w) ∨ (likeA σ s o w ∧ MA σ (w.toNat + 2) (σ (s.toNat + 2) 1) (σ (s.toNat + 2) 2 * σ (o.toNat + 2) 2) (pdF σ (s.toNat + 2) (o.toNat + 2)) σ' z)
def okU (n s w r o : Int) : Prop := (0 ≤ s ∧ s < 4 ∧ n ≠ 0) ∧ (0 ≤ o ∧ o < 4) ∧ (0 ≤ w ∧ w ≤ 5) ∧ (3 < w → 0 ≤ r ∧ r < n)
def XuA (σ : eS) (s w r o : Int) (σ' : eS) (z : Int) : Prop := (z = 0 ∧ tbS σ σ' ∧ ¬ okU (σ (s.toNat + 2) 1) s w r o) ∨ (okU (σ (s.toNat + 2) 1) s w r o ∧ MA σ (o.toNat + 2) (σ (s.toNat + 2) 1) (σ (s.toNat + 2) 2) (tuF σ (s.toNat + 2) w r (σ (s.toNat + 2) 1)) σ' z)
theorem tbS_rf (σ : eS) : tbS σ σ := fun _ _ _ _ _ => rfl
theorem t_Ev_mix {σ : eS} {s x y o u v w : Int} (h : IA σ) : MtI shA M_Ev_mix [vr 0, vi s, vi x, vi y, vi o, vi u, vi v, vi w] σ (fun σ' z => QA0 σ σ' ∧ XmA σ s x y o u v w σ' z) := by
  refine Mt.of okM_Ev_mix (Nat.le_of_ble_eq_true rfl) (fun hk hg => ?_)
  refine ok_iload_n 0 rfl rfl rfl (ok_iload_n 1 rfl rfl rfl (ok_callSI (M' := M_Ev_isShare) (as := [_, _]) 2 rfl rfl ml_X11_143 (s_Ev_isShare) ⟨Nat.le_of_ble_eq_true rfl, Nat.le_of_ble_eq_true rfl⟩ rfl (Nat.le_of_ble_eq_true rfl) (fun σ' z1 x1 => ?_)))
  obtain ⟨hs_, x1⟩ := x1
  rw [hs_]; clear hs_ σ'
  refine ok_if_eq 3 30 rfl rfl rfl (fun h5 => ?_) (fun h5 => ?_)
  · refine ok_iconst 14 rfl rfl (by decide) (ok_zret 15 rfl rfl rfl (by first | omega | (simp [up_if]; omega) | (simp [up_if] at *; omega)) ?_)
    exact ⟨_, rfl, (QA_rf h).q0, Or.inl ⟨rfl, tbS_rf _, fun q => by have := q.1; unfold shr at this; omega⟩⟩
  · refine ok_iload 4 rfl rfl rfl (ok_iload 5 rfl rfl rfl (ok_callSI (M' := M_Ev_isShare) (as := [_, _]) 6 rfl rfl ml_X11_143 (s_Ev_isShare) ⟨Nat.le_of_ble_eq_true rfl, Nat.le_of_ble_eq_true rfl⟩ rfl (Nat.le_of_ble_eq_true rfl) (fun σ' z2 x2 => ?_)))
    obtain ⟨hs_, x2⟩ := x2
    rw [hs_]; clear hs_ σ'
    refine ok_if_eq 7 30 rfl rfl rfl (fun h15 => ?_) (fun h15 => ?_)
    · refine ok_iconst 14 rfl rfl (by decide) (ok_zret 15 rfl rfl rfl (by first | omega | (simp [up_if]; omega) | (simp [up_if] at *; omega)) ?_)
      exact ⟨_, rfl, (QA_rf h).q0, Or.inl ⟨rfl, tbS_rf _, fun q => by have := q.2.1; unfold shr at this; omega⟩⟩
    · refine ok_aload_n 8 rfl rfl rfl (ok_iload_n 9 rfl rfl rfl (ok_iload 10 rfl rfl rfl (ok_iload 11 rfl rfl rfl (ok_callVI (M' := M_Ev_areLike) (as := [_, _, _]) 12 rfl rfl ml_X11_147 (s_Ev_areLike) rfl rfl (Nat.le_of_ble_eq_true rfl) ⟨Nat.le_of_ble_eq_true rfl, Nat.le_of_ble_eq_true rfl⟩ rfl (Nat.le_of_ble_eq_true rfl) (fun σ' z3 x3 => ?_)))))
      obtain ⟨hs_, x3⟩ := x3
      rw [hs_]; clear hs_ σ'
      refine ok_if_ne 13 32 rfl rfl rfl (fun h27 => ?_) (fun h27 => ?_)
      · have hl : likeA σ s o w := by
          rcases x3 with q | q
          · exact absurd q.1 h27
          · exact q.2
        obtain ⟨a1, a2, a3, a4, a5, a6, a7, a8⟩ := id hl
        clear x3 h27
        have ht := sl_tA ⟨a1, a2⟩
        have hu := sl_tA ⟨a3, a4⟩
        have hv := sl_tA ⟨a5, a6⟩
        refine ok_aload_n 16 rfl rfl rfl (ok_getR 17 rfl rfl fl_X11_25 rfl rfl (ok_aload_n 18 rfl rfl rfl (ok_getR 19 rfl rfl fl_X11_11 rfl rfl (ok_iload_n 20 rfl rfl rfl (ok_aald 21 (s.toNat + 2) rfl rfl rfl (Or.inl rfl) (by omega) (sl_at (by omega)) (ok_iload_n 22 rfl rfl rfl (ok_iload_n 23 rfl rfl rfl (ok_aload_n 24 rfl rfl rfl (ok_getR 25 rfl rfl fl_X11_11 rfl rfl (ok_iload 26 rfl rfl rfl (ok_aald 27 (o.toNat + 2) rfl rfl rfl (Or.inl rfl) (by omega) (sl_at (by omega)) (ok_iload 28 rfl rfl rfl (ok_iload 29 rfl rfl rfl (ok_aload_n 30 rfl rfl rfl (ok_getR 31 rfl rfl fl_X11_11 rfl rfl (ok_iload 32 rfl rfl rfl (ok_aald 33 (w.toNat + 2) rfl rfl rfl (Or.inl rfl) (by omega) (sl_at (by omega)) (ok_callVI (M' := M_Mk_makeMixture) (as := [_, _, _, _, _, _, _]) 34 rfl rfl ml_X11_151 (t_Mk_makeMixture ht hu hv h.2.2.2.2.2 (h.2.1 _ ht).1 (h.2.1 _ hu).1 (h.2.1 _ hv).1 (h.2.1 _ hv).2 a7 a8 (by omega) (by omega)) rfl rfl (Nat.le_of_ble_eq_true rfl) ⟨Nat.le_of_ble_eq_true rfl, Nat.le_of_ble_eq_true rfl⟩ rfl (Nat.le_of_ble_eq_true rfl) (fun τ z hz => ?_)))))))))))))))))))
        refine ok_zret 35 rfl rfl rfl hz.1.2.2.2.2 ?_
        exact ⟨_, rfl, QA_mk h hv hz.1, Or.inr ⟨⟨⟨by omega, by omega, by omega, by omega⟩, ⟨by omega, by omega, by omega, by omega⟩, hl⟩, hz.2⟩⟩
      · refine ok_iconst 14 rfl rfl (by decide) (ok_zret 15 rfl rfl rfl (by first | omega | (simp [up_if]; omega) | (simp [up_if] at *; omega)) ?_)
        refine ⟨_, rfl, (QA_rf h).q0, Or.inl ⟨rfl, tbS_rf _, fun q => ?_⟩⟩
        rcases x3 with c | c
        · exact c.2 q.2.2
        · omega
theorem t_Ev_times {σ : eS} {s o w : Int} (h : IA σ) : MtI shA M_Ev_times [vr 0, vi s, vi o, vi w] σ (fun σ' z => QA0 σ σ' ∧ XtA σ s o w σ' z) := by
  refine Mt.of okM_Ev_times (Nat.le_of_ble_eq_true rfl) (fun hk hg => ?_)
  refine ok_aload_n 0 rfl rfl rfl (ok_iload_n 1 rfl rfl rfl (ok_iload_n 2 rfl rfl rfl (ok_iload_n 3 rfl rfl rfl (ok_callVI (M' := M_Ev_areLike) (as := [_, _, _]) 4 rfl rfl ml_X11_147 (s_Ev_areLike) rfl rfl (Nat.le_of_ble_eq_true rfl) ⟨Nat.le_of_ble_eq_true rfl, Nat.le_of_ble_eq_true rfl⟩ rfl (Nat.le_of_ble_eq_true rfl) (fun σ' z3 x3 => ?_)))))
  obtain ⟨hs_, x3⟩ := x3
  rw [hs_]; clear hs_ σ'
  refine ok_if_eq 5 42 rfl rfl rfl (fun h7 => ?_) (fun h7 => ?_)
  · refine ok_iconst 24 rfl rfl (by decide) (ok_zret 25 rfl rfl rfl (by first | omega | (simp [up_if]; omega) | (simp [up_if] at *; omega)) ?_)
    refine ⟨_, rfl, (QA_rf h).q0, Or.inl ⟨rfl, tbS_rf _, fun q => ?_⟩⟩
    rcases x3 with c | c
    · exact c.2 q
    · omega
  · have hl : likeA σ s o w := by
      rcases x3 with q | q
      · exact absurd q.1 h7
      · exact q.2
    obtain ⟨a1, a2, a3, a4, a5, a6, a7, a8⟩ := id hl
    clear x3 h7
    have ht := sl_tA ⟨a1, a2⟩
    have hu := sl_tA ⟨a3, a4⟩
    have hv := sl_tA ⟨a5, a6⟩
    refine ok_aload_n 6 rfl rfl rfl (ok_getR 7 rfl rfl fl_X11_25 rfl rfl (ok_aload_n 8 rfl rfl rfl (ok_getR 9 rfl rfl fl_X11_11 rfl rfl (ok_iload_n 10 rfl rfl rfl (ok_aald 11 (s.toNat + 2) rfl rfl rfl (Or.inl rfl) (by omega) (sl_at (by omega)) (ok_aload_n 12 rfl rfl rfl (ok_getR 13 rfl rfl fl_X11_11 rfl rfl (ok_iload_n 14 rfl rfl rfl (ok_aald 15 (o.toNat + 2) rfl rfl rfl (Or.inl rfl) (by omega) (sl_at (by omega)) (ok_aload_n 16 rfl rfl rfl (ok_getR 17 rfl rfl fl_X11_11 rfl rfl (ok_iload_n 18 rfl rfl rfl (ok_aald 19 (w.toNat + 2) rfl rfl rfl (Or.inl rfl) (by omega) (sl_at (by omega)) (ok_callVI (M' := M_Mk_makeProduct) (as := [_, _, _]) 20 rfl rfl ml_X11_155 (t_Mk_makeProduct ht hu hv h.2.2.2.2.2 (h.2.1 _ ht).1 (h.2.1 _ hu).1 (h.2.1 _ hv).1 (h.2.1 _ hv).2 a7 a8) rfl rfl (Nat.le_of_ble_eq_true rfl) ⟨Nat.le_of_ble_eq_true rfl, Nat.le_of_ble_eq_true rfl⟩ rfl (Nat.le_of_ble_eq_true rfl) (fun τ z hz => ?_)))))))))))))))
    refine ok_if_eq 21 42 rfl rfl rfl (fun h35 => ?_) (fun h35 => ?_)
    · refine ok_iconst 24 rfl rfl (by decide) (ok_zret 25 rfl rfl rfl (by first | omega | (simp [up_if]; omega) | (simp [up_if] at *; omega)) ?_)
      refine ⟨_, rfl, QA_mk h hv hz.1, Or.inr ⟨hl, ?_⟩⟩
      have hz1 := hz.1.2.2.2.2
      have hz2 := hz.2
      first | (rw [show z = 0 by omega] at hz2; exact hz2) | (rw [show z = 1 by omega] at hz2; exact hz2)
    · refine ok_iconst 22 rfl rfl (by decide) (ok_goto 23 43 rfl rfl rfl (ok_zret 25 rfl rfl rfl (by first | omega | (simp [up_if]; omega) | (simp [up_if] at *; omega)) ?_))
      refine ⟨_, rfl, QA_mk h hv hz.1, Or.inr ⟨hl, ?_⟩⟩
      have hz1 := hz.1.2.2.2.2
      have hz2 := hz.2
      first | (rw [show z = 0 by omega] at hz2; exact hz2) | (rw [show z = 1 by omega] at hz2; exact hz2)
theorem t_Ev_turn {σ : eS} {s w r o : Int} (h : IA σ) : MtI shA M_Ev_turn [vr 0, vi s, vi w, vi r, vi o] σ (fun σ' z => QA0 σ σ' ∧ XuA σ s w r o σ' z) := by
  refine Mt.of okM_Ev_turn (Nat.le_of_ble_eq_true rfl) (fun hk hg => ?_)
  refine ok_aload_n 0 rfl rfl rfl (ok_iload_n 1 rfl rfl rfl (ok_callVR (M' := M_Ev_filledSlot) (as := [_]) 2 rfl rfl ml_X11_137 (s_Ev_filledSlot) rfl rfl (Nat.le_of_ble_eq_true rfl) ⟨Nat.le_of_ble_eq_true rfl, Nat.le_of_ble_eq_true rfl⟩ rfl (Nat.le_of_ble_eq_true rfl) (fun σ' z1 x1 => ?_)))
  obtain ⟨hs_, x1⟩ := x1
  rw [hs_]; clear hs_ σ'
  refine ok_ast5 3 rfl rfl rfl (ok_aload_n 4 rfl rfl rfl (ok_iload 5 rfl rfl rfl (ok_callVR (M' := M_Ev_slotAt) (as := [_]) 6 rfl rfl ml_X11_86 (s_Ev_slotAt) rfl rfl (Nat.le_of_ble_eq_true rfl) ⟨Nat.le_of_ble_eq_true rfl, Nat.le_of_ble_eq_true rfl⟩ rfl (Nat.le_of_ble_eq_true rfl) (fun σ' z2 x2 => ?_))))
  obtain ⟨hs_, x2⟩ := x2
  rw [hs_]; clear hs_ σ'
  rcases x1 with ⟨q, q0⟩ | ⟨q1, q2, q, q3⟩
  · subst q
    refine ok_ast6 7 rfl rfl rfl (ok_aload 8 rfl rfl rfl (ok_ifnullN 9 48 rfl rfl rfl (ok_iconst 24 rfl rfl (by decide) (ok_zret 25 rfl rfl rfl (by first | omega | (simp [up_if]; omega) | (simp [up_if] at *; omega)) ?_))))
    exact ⟨_, rfl, (QA_rf h).q0, Or.inl ⟨rfl, tbS_rf _, fun q => q0 q.1⟩⟩
  · subst q
    have ht := sl_tA ⟨q1, q2⟩
    rcases x2 with ⟨q, q4⟩ | ⟨r1, r2, q⟩
    · subst q
      refine ok_ast6 7 rfl rfl rfl (ok_aload 8 rfl rfl rfl (ok_ifnull 9 rfl rfl (ok_aload 10 rfl rfl rfl (ok_ifnullN 11 48 rfl rfl rfl (ok_iconst 24 rfl rfl (by decide) (ok_zret 25 rfl rfl rfl (by first | omega | (simp [up_if]; omega) | (simp [up_if] at *; omega)) ?_))))))
      exact ⟨_, rfl, (QA_rf h).q0, Or.inl ⟨rfl, tbS_rf _, fun q => q4 q.2.1⟩⟩
    · subst q
      have hu := sl_tA ⟨r1, r2⟩
      have tail : 0 ≤ w → w ≤ 5 → (3 < w → 0 ≤ r ∧ r < σ (s.toNat + 2) 1) → Ok shA M_Ev_turn 50 [some (vr 0), some (vi s), some (vi w), some (vi r), some (vi o), some (vr (s.toNat + 2)), some (vr (o.toNat + 2))] [] σ (fun σ' v => ∃ z, v = some (vi z) ∧ QA0 σ σ' ∧ XuA σ s w r o σ' z) := by
        intro w1 w2 hr
        refine ok_aload_n 26 rfl rfl rfl (ok_getR 27 rfl rfl fl_X11_25 rfl rfl (ok_aload 28 rfl rfl rfl (ok_iload_n 29 rfl rfl rfl (ok_iload_n 30 rfl rfl rfl (ok_aload 31 rfl rfl rfl (ok_callVI (M' := M_Mk_makeTurned) (as := [_, _, _, _]) 32 rfl rfl ml_X11_159 (t_Mk_makeTurned ht hu h.2.2.2.2.2 (h.2.1 _ ht).1 (h.2.1 _ hu).1 (h.2.1 _ hu).2 q3 hr ⟨w1, w2⟩) rfl rfl (Nat.le_of_ble_eq_true rfl) ⟨Nat.le_of_ble_eq_true rfl, Nat.le_of_ble_eq_true rfl⟩ rfl (Nat.le_of_ble_eq_true rfl) (fun τ z hz => ?_)))))))
        refine ok_zret 33 rfl rfl rfl hz.1.2.2.2.2 ?_
        exact ⟨_, rfl, QA_mk h hu hz.1, Or.inr ⟨⟨⟨q1, q2, q3⟩, ⟨r1, r2⟩, ⟨w1, w2⟩, hr⟩, hz.2⟩⟩
      refine ok_ast6 7 rfl rfl rfl (ok_aload 8 rfl rfl rfl (ok_ifnull 9 rfl rfl (ok_aload 10 rfl rfl rfl (ok_ifnull 11 rfl rfl (ok_iload_n 12 rfl rfl rfl (ok_if_lt 13 48 rfl rfl rfl (fun h26 => ?_) (fun h26 => ?_)))))))
      · refine ok_iconst 24 rfl rfl (by decide) (ok_zret 25 rfl rfl rfl (by first | omega | (simp [up_if]; omega) | (simp [up_if] at *; omega)) ?_)
        exact ⟨_, rfl, (QA_rf h).q0, Or.inl ⟨rfl, tbS_rf _, fun q => by obtain ⟨-, -, c, d⟩ := q; omega⟩⟩
      · refine ok_iload_n 14 rfl rfl rfl (ok_iconst 15 rfl rfl (by decide) (ok_icmp_gt 16 48 rfl rfl rfl (fun h31 => ?_) (fun h31 => ?_)))
        · refine ok_iconst 24 rfl rfl (by decide) (ok_zret 25 rfl rfl rfl (by first | omega | (simp [up_if]; omega) | (simp [up_if] at *; omega)) ?_)
          exact ⟨_, rfl, (QA_rf h).q0, Or.inl ⟨rfl, tbS_rf _, fun q => by obtain ⟨-, -, c, d⟩ := q; omega⟩⟩
        · refine ok_iload_n 17 rfl rfl rfl (ok_iconst 18 rfl rfl (by decide) (ok_icmp_le 19 50 rfl rfl rfl (fun h36 => ?_) (fun h36 => ?_)))
          · exact tail (by omega) (by omega) (by omega)
          · refine ok_aload 20 rfl rfl rfl (ok_iload_n 21 rfl rfl rfl (ok_callVI (M' := M_Ta_has) (as := [_]) 22 rfl rfl ml_X11_129 (s_Ta_has ht) (sT ht) rfl (Nat.le_of_ble_eq_true rfl) ⟨Nat.le_of_ble_eq_true rfl, Nat.le_of_ble_eq_true rfl⟩ rfl (Nat.le_of_ble_eq_true rfl) (fun σ' z3 x3 => ?_)))
            obtain ⟨hs_, x3⟩ := x3
            rw [hs_]; clear hs_ σ'
            refine ok_if_ne 23 50 rfl rfl rfl (fun h45 => ?_) (fun h45 => ?_)
            · exact tail (by omega) (by omega) (by omega)
            · refine ok_iconst 24 rfl rfl (by decide) (ok_zret 25 rfl rfl rfl (by first | omega | (simp [up_if]; omega) | (simp [up_if] at *; omega)) ?_)
              exact ⟨_, rfl, (QA_rf h).q0, Or.inl ⟨rfl, tbS_rf _, fun q => by obtain ⟨-, -, c, d⟩ := q; omega⟩⟩
end
section
/-! the same of the reference -/
theorem gF_un {σ : eS} {m : Int} (h0 : m ∣ σ 0 4) : ∀ {k : Nat}, (∀ j : Nat, j < k → m ∣ σ 4 j) → m ∣ gF σ k
  | 0, _ => h0
  | k + 1, h => Int.dvd_coe_gcd (gF_un h0 (fun j q => h j (by omega))) (h k (by omega))
abbrev frF (τ : eS) (n : Int) : Int → Int → Int := fun i j => τ 4 (n * i + j)
theorem Qtk.B {τ σ' : eS} {s n z : Int} (hn : 1 ≤ n ∧ n ≤ 8) (hb : 1 ≤ τ 0 4) (h : Qtk τ s n σ' z) : MB τ s n (τ 0 4) (frF τ n) σ' z := by
  obtain ⟨gp, gl⟩ := gF_bd hb (n * n).toNat
  obtain ⟨v1, v2⟩ := gF_dv τ (n * n).toNat
  have sq := sq8 (n := n) ⟨by omega, by omega⟩
  have ix : ∀ i j, 0 ≤ i → i < n → 0 ≤ j → j < n → ∃ k : Nat, (k : Int) = n * i + j ∧ k < (n * n).toNat := fun i j a b c d => by
    obtain ⟨y1, y2, y3, y4⟩ := ix8 (n := n) (i := i) (j := j) ⟨by omega, by omega⟩ ⟨a, b⟩ ⟨c, d⟩
    exact ⟨(n * i + j).toNat, by omega, by omega⟩
  have hG : isG (gF τ (n * n).toNat) (τ 0 4) n (frF τ n) := by
    refine ⟨gp, v1, fun i j a b c d => ?_, fun m p q => gF_un p (fun k hk => ?_)⟩
    · obtain ⟨k, e, l⟩ := ix i j a b c d
      have := v2 k l
      rw [e] at this
      exact this
    · obtain ⟨x, y, a, b, c, d, e⟩ := dm_n (k := (k : Int)) (n := n) (by omega) (by omega) (by omega)
      rw [e]; exact q x y a b c d
  have hft : fitT τ n ↔ fitM (gF τ (n * n).toNat) (τ 0 4) n (frF τ n) := by
    refine ⟨fun q => ⟨q.1, fun i j a b c d => ?_⟩, fun q => ⟨q.1, fun k a b => ?_⟩⟩
    · obtain ⟨y1, y2, y3, y4⟩ := ix8 (n := n) (i := i) (j := j) ⟨by omega, by omega⟩ ⟨a, b⟩ ⟨c, d⟩
      exact q.2 (n * i + j) (by omega) (by omega)
    · obtain ⟨x, y, a1, b1, c1, d1, e1⟩ := dm_n (by omega) a b
      rw [e1]; exact q.2 x y a1 b1 c1 d1
  refine ⟨_, hG, ?_⟩
  rcases h with ⟨hz, e, w⟩ | ⟨hz, e, w⟩
  · exact Or.inl ⟨hz, fun q => w (hft.mpr q), fun k => by rw [e]; exact ⟨rfl, rfl, rfl⟩⟩
  · refine Or.inr ⟨hz, hft.mp w, fun k => ?_, fun k => ?_, fun k hk => ?_, fun i j a b c d => ?_⟩
    · rw [e]; simp only [tw]; simp
    · rw [e, if_neg (by omega)]; simp only [tw]; simp
    · rw [e]; simp only [tw]; rw [if_neg (by omega), if_neg (by omega), if_neg (by omega)]
    · obtain ⟨y1, y2, y3, y4⟩ := ix8 (n := n) (i := i) (j := j) ⟨by omega, by omega⟩ ⟨a, b⟩ ⟨c, d⟩
      rw [e]
      simp only [tw]
      rw [if_neg (by omega), if_neg (by omega), if_pos ⟨trivial, by omega, by omega⟩, show 64 * s + (n * i + j) - 64 * s = n * i + j by omega]
theorem MB_cg {σ τ σ' : eS} {s n b z : Int} {f f' : Int → Int → Int} (h : MB τ s n b f σ' z) (hk : tbK σ τ) (e : ∀ i j, 0 ≤ i → i < n → 0 ≤ j → j < n → f i j = f' i j) : MB σ s n b f' σ' z := by
  obtain ⟨g, h1, h2⟩ := h
  refine ⟨g, isG_cg h1 e, ?_⟩
  rcases h2 with ⟨a1, a2, a3⟩ | ⟨a1, a2, a3, a4, a5, a6⟩
  · exact Or.inl ⟨a1, fun q => a2 ((fitM_cg e).mpr q), hk.tr a3⟩
  · exact Or.inr ⟨a1, (fitM_cg e).mp a2, fun k => by rw [a3 k, (hk k).1], fun k => by rw [a4 k, (hk k).2.1], fun k q => by rw [a5 k q, (hk k).2.2], fun i j p q r w => by rw [a6 i j p q r w, e i j p q r w]⟩
theorem tbK_rf (σ : eS) : tbK σ σ := fun _ => ⟨rfl, rfl, rfl⟩
theorem tbK_M {σ τ : eS} (f : fr (fun c k => (c = 0 ∧ k = 4) ∨ c = 4) σ τ) : tbK σ τ := tbK.of f (fun k => by omega)
def likeB (σ : eS) (s o w : Int) : Prop := tabB σ s ∧ tabB σ o ∧ (0 ≤ w ∧ w < 4) ∧ σ 1 s = σ 1 o
def pdB (σ : eS) (s o : Int) : Int → Int → Int := fun i j => sm (fun k => cB σ s i k * cB σ o k j) (σ 1 s).toNat
def XtB (σ : eS) (s o w : Int) (σ' : eS) (z : Int) : Prop := (z = 0 ∧ tbK σ σ' ∧ ¬ likeB σ s o w) ∨ (likeB σ s o w ∧ MB σ w (σ 1 s) (σ 2 s * σ 2 o) (pdB σ s o) σ' z)
theorem cB_cg {σ τ : eS} (h : tbK σ τ) (s i j : Int) : cB τ s i j = cB σ s i j := by unfold cB; rw [(h _).2.2, (h _).1]
theorem t_Mo_times {σ : eS} {s o t : Int} (hB : iB1 σ) : MtI shB M_Mo_times [vr 0, vi s, vi o, vi t] σ (fun σ' z => QM σ σ' z ∧ XtB σ s o t σ' z) := by
  refine Mt.of okM_Mo_times (Nat.le_of_ble_eq_true rfl) (fun hk hg => ?_)
  refine ok_aload_n 0 rfl rfl rfl (ok_iload_n 1 rfl rfl rfl (ok_callVI (M' := M_Mo_isTable) (as := [_]) 2 rfl rfl ml_X12_111 (s_Mo_isTable_r) rfl rfl (Nat.le_of_ble_eq_true rfl) ⟨Nat.le_of_ble_eq_true rfl, Nat.le_of_ble_eq_true rfl⟩ rfl (Nat.le_of_ble_eq_true rfl) (fun σ' z1 a1 => ?_)))
  obtain ⟨hs_, a1⟩ := a1
  rw [hs_]; clear hs_ σ'
  refine ok_if_eq 3 38 rfl rfl rfl (fun h5 => ?_) (fun h5 => ?_)
  · refine ok_iconst 20 rfl rfl (by decide) (ok_zret 21 rfl rfl rfl (by first | omega | (simp [up_if]; omega) | (simp [up_if] at *; omega)) ?_)
    exact ⟨_, rfl, ⟨fr.rf, hB, Or.inl rfl⟩, Or.inl ⟨rfl, tbK_rf _, fun q => no1 a1 h5 q.1⟩⟩
  · refine ok_aload_n 4 rfl rfl rfl (ok_iload_n 5 rfl rfl rfl (ok_callVI (M' := M_Mo_isTable) (as := [_]) 6 rfl rfl ml_X12_111 (s_Mo_isTable_r) rfl rfl (Nat.le_of_ble_eq_true rfl) ⟨Nat.le_of_ble_eq_true rfl, Nat.le_of_ble_eq_true rfl⟩ rfl (Nat.le_of_ble_eq_true rfl) (fun σ' z2 a2 => ?_)))
    obtain ⟨hs_, a2⟩ := a2
    rw [hs_]; clear hs_ σ'
    refine ok_if_eq 7 38 rfl rfl rfl (fun h13 => ?_) (fun h13 => ?_)
    · refine ok_iconst 20 rfl rfl (by decide) (ok_zret 21 rfl rfl rfl (by first | omega | (simp [up_if]; omega) | (simp [up_if] at *; omega)) ?_)
      exact ⟨_, rfl, ⟨fr.rf, hB, Or.inl rfl⟩, Or.inl ⟨rfl, tbK_rf _, fun q => no1 a2 h13 q.2.1⟩⟩
    · refine ok_iload_n 8 rfl rfl rfl (ok_callSI (M' := M_Mo_isSlot) (as := [_]) 9 rfl rfl ml_X12_103 (s_Mo_isSlot_r) ⟨Nat.le_of_ble_eq_true rfl, Nat.le_of_ble_eq_true rfl⟩ rfl (Nat.le_of_ble_eq_true rfl) (fun σ' z3 a3 => ?_))
      obtain ⟨hs_, a3⟩ := a3
      rw [hs_]; clear hs_ σ'
      refine ok_if_eq 10 38 rfl rfl rfl (fun h20 => ?_) (fun h20 => ?_)
      · refine ok_iconst 20 rfl rfl (by decide) (ok_zret 21 rfl rfl rfl (by first | omega | (simp [up_if]; omega) | (simp [up_if] at *; omega)) ?_)
        exact ⟨_, rfl, ⟨fr.rf, hB, Or.inl rfl⟩, Or.inl ⟨rfl, tbK_rf _, fun q => no1 a3 h20 q.2.2.1⟩⟩
      · have hs : tabB σ s := yes1 a1 h5
        have ho : tabB σ o := yes1 a2 h13
        have ht := yes1 a3 h20
        obtain ⟨s1, s2, s3⟩ := id hs
        obtain ⟨o1, o2, o3⟩ := id ho
        obtain ⟨g1, g2, g3⟩ := hB.1 s s1 s2
        obtain ⟨k1, k2, k3⟩ := hB.1 o o1 o2
        refine ok_aload_n 11 rfl rfl rfl (ok_getR 12 rfl rfl fl_X12_7 rfl rfl (ok_iload_n 13 rfl rfl rfl (ok_iald 14 rfl rfl rfl (by first | omega | (simp [up_if]; omega) | (simp [up_if] at *; omega)) (ok_aload_n 15 rfl rfl rfl (ok_getR 16 rfl rfl fl_X12_7 rfl rfl (ok_iload_n 17 rfl rfl rfl (ok_iald 18 rfl rfl rfl (by first | omega | (simp [up_if]; omega) | (simp [up_if] at *; omega)) (ok_icmp_eq 19 40 rfl rfl rfl (fun h35 => ?_) (fun h35 => ?_)))))))))
        · have hl : likeB σ s o t := ⟨hs, ho, ht, by omega⟩
          obtain ⟨n, en⟩ : ∃ x, x = σ 1 s := ⟨_, rfl⟩
          obtain ⟨x1, x2⟩ := sq8 (n := n) ⟨by omega, by omega⟩
          refine ok_aload_n 22 rfl rfl rfl (ok_getR 23 rfl rfl fl_X12_7 rfl rfl (ok_iload_n 24 rfl rfl rfl (ok_iald 25 rfl rfl rfl (by first | omega | (simp [up_if]; omega) | (simp [up_if] at *; omega)) (ok_ist4 26 rfl rfl rfl (ok_iconst 27 rfl rfl (by decide) (ok_ist5 28 rfl rfl rfl ?_))))))
          rw [← en]
          refine lpO2 (fun (i : Int) (_ : eS) => [some (vr 0), some (vi s), some (vi o), some (vi t), some (vi n), some (vi i), none, none, none, none]) (fun _ τ => τ) (fun i τ => 0 ≤ i ∧ i ≤ n ∧ fr (fun c k => (c = 0 ∧ k = 4) ∨ c = 4) σ τ ∧ (∀ k, 0 ≤ k → k < 64 → 0 ≤ τ 4 k) ∧ ∀ x y, 0 ≤ x → x < i → 0 ≤ y → y < n → τ 4 (n * x + y) = pdB σ s o x y) (fun i _ => (n - i).toNat) ?_ 0 σ ⟨by omega, by omega, fr.rf, hB.2.2, fun x y p q => by omega⟩
          rintro i τ ⟨i1, i2, i3, i4, i5⟩ ih
          refine ok_iload 29 rfl rfl rfl (ok_iload 30 rfl rfl rfl (ok_icmp_ge 31 140 rfl rfl rfl (fun h55 => ?_) (fun h55 => ?_)))
          · obtain ⟨b1, b2⟩ := iB1_M hB i3 i4
            have bs := (b2 s)
            have bo := (b2 o)
            obtain ⟨m1, m2⟩ := mul_bd (a := τ 2 s) (b := τ 2 o) (A := 999999) (B := 999999) ⟨by omega, by omega⟩ ⟨by omega, by omega⟩
            have m3 := Int.mul_pos (by omega : 0 < τ 2 s) (by omega : 0 < τ 2 o)
            have hin : i = n := by omega
            refine ok_aload_n 75 rfl rfl rfl (ok_aload_n 76 rfl rfl rfl (ok_getR 77 rfl rfl fl_X12_13 rfl rfl (ok_iload_n 78 rfl rfl rfl (ok_iald 79 rfl rfl rfl (by first | omega | (simp [up_if]; omega) | (simp [up_if] at *; omega)) (ok_i2l 80 rfl rfl (ok_aload_n 81 rfl rfl rfl (ok_getR 82 rfl rfl fl_X12_13 rfl rfl (ok_iload_n 83 rfl rfl rfl (ok_iald 84 rfl rfl rfl (by first | omega | (simp [up_if]; omega) | (simp [up_if] at *; omega)) (ok_i2l 85 rfl rfl (ok_lmul 86 rfl rfl (by first | omega | (simp [up_if]; omega) | (simp [up_if] at *; omega)) (ok_putL 87 rfl rfl fl_X12_85 rfl rfl rfl rfl (ok_aload_n 88 rfl rfl rfl (ok_iload_n 89 rfl rfl rfl (ok_iload 90 rfl rfl rfl (ok_callVI (M' := M_Mo_takes) (as := [_, _]) 91 rfl rfl ml_X12_179 (s_Mo_takes ht ⟨by omega, by omega⟩ (by rw [up_same]; omega) (fun k a b => by rw [up_ne _ _ _ _ (by decide)]; exact i4 k a (by omega))) rfl rfl (Nat.le_of_ble_eq_true rfl) ⟨Nat.le_of_ble_eq_true rfl, Nat.le_of_ble_eq_true rfl⟩ rfl (Nat.le_of_ble_eq_true rfl) (fun σ' z hz => ?_)))))))))))))))))
            have hq := Qtk.M (b1.fr (fun c k q => by rw [up_ne _ _ _ _ (by omega)])) ht ⟨by omega, by omega⟩ (by rw [up_same]; omega) (fun k a b => by rw [up_ne _ _ _ _ (by decide)]; exact i4 k a (by omega)) hz
            have hm := Qtk.B ⟨by omega, by omega⟩ (by rw [up_same]; omega) hz
            rw [up_same, bs.2, bo.2, en] at hm
            refine ok_zret 92 rfl rfl rfl (by have := hq.2.2; omega) ?_
            refine ⟨_, rfl, hq.tr (fr_up (i3.mono (fun c k q => by simp only [rgM]; omega)) (by simp [rgM])), Or.inr ⟨hl, MB_cg hm (tbK_M (fr_up i3 (by omega))) (fun x y p q r w => ?_)⟩⟩
            show up τ 0 4 _ 4 _ = _
            rw [up_ne _ _ _ _ (by decide), ← en]
            exact i5 x y p (by omega) r (by omega)
          · refine ok_iconst 32 rfl rfl (by decide) (ok_ist6 33 rfl rfl rfl ?_)
            have il : i < n := by omega
            refine lpO2 (fun (j : Int) (_ : eS) => [some (vr 0), some (vi s), some (vi o), some (vi t), some (vi n), some (vi i), some (vi j), none, none, none]) (fun _ τ => τ) (fun j τ => 0 ≤ j ∧ j ≤ n ∧ fr (fun c k => (c = 0 ∧ k = 4) ∨ c = 4) σ τ ∧ (∀ k, 0 ≤ k → k < 64 → 0 ≤ τ 4 k) ∧ ∀ x y, 0 ≤ x → 0 ≤ y → y < n → (x < i ∨ (x = i ∧ y < j)) → τ 4 (n * x + y) = pdB σ s o x y) (fun j _ => (n - j).toNat) ?_ 0 τ ⟨by omega, by omega, i3, i4, fun x y p q r w => i5 x y p (by omega) q r⟩
            clear i3 i4 i5 τ
            rintro j τ ⟨j1, j2, i3, i4, i5⟩ ih2
            obtain ⟨b1, b2⟩ := iB1_M hB i3 i4
            have tk := tbK_M i3
            have bs := (b2 s).1
            have bo := (b2 o).1
            refine ok_iload 34 rfl rfl rfl (ok_iload 35 rfl rfl rfl (ok_icmp_ge 36 134 rfl rfl rfl (fun h65 => ?_) (fun h65 => ?_)))
            · refine ok_inc5 73 rfl rfl rfl (by first | omega | (simp [up_if]; omega) | (simp [up_if] at *; omega)) (ok_goto 74 51 rfl rfl rfl ?_)
              exact ok_fg [some (vr 0), some (vi s), some (vi o), some (vi t), some (vi n), some (vi (i + 1)), none, none, none, none] ⟨rfl, rfl, rfl, rfl, rfl, rfl, trivial⟩ (ih (i + 1) τ ⟨by omega, by omega, i3, i4, fun x y p q r w => i5 x y p r w (by omega)⟩ (by omega))
            · obtain ⟨y1, y2, y3, y4⟩ := ix8 (n := n) (i := i) (j := j) ⟨by omega, by omega⟩ ⟨by omega, by omega⟩ ⟨by omega, by omega⟩
              refine ok_lconst (w := 0) 37 rfl rfl rfl (by decide) (ok_lst7 38 rfl rfl rfl (ok_iconst 39 rfl rfl (by decide) (ok_ist9 40 rfl rfl rfl ?_)))
              have jl : j < n := by omega
              refine lpO2 (fun (v k : Int) => [some (vr 0), some (vi s), some (vi o), some (vi t), some (vi n), some (vi i), some (vi j), some (vl v), none, some (vi k)]) (fun _ _ => τ) (fun v k => 0 ≤ k ∧ k ≤ n ∧ 0 ≤ v ∧ v ≤ 9999999800000001 * k ∧ v = sm (fun k => cB σ s i k * cB σ o k j) k.toNat) (fun _ k => (n - k).toNat) ?_ 0 0 ⟨by omega, by omega, by omega, by omega, rfl⟩
              rintro v k ⟨v1, v2, v3, v4, v5⟩ ih3
              have es := sm_s (fun k => cB σ s i k * cB σ o k j) v1
              refine ok_iload 41 rfl rfl rfl (ok_iload 42 rfl rfl rfl (ok_icmp_ge 43 113 rfl rfl rfl (fun h78 => ?_) (fun h78 => ?_)))
              · refine ok_aload_n 62 rfl rfl rfl (ok_getR 63 rfl rfl fl_X12_19 rfl rfl (ok_iload 64 rfl rfl rfl (ok_iload 65 rfl rfl rfl (ok_imul 66 rfl rfl (by first | omega | (simp [up_if]; omega) | (simp [up_if] at *; omega)) (ok_iload 67 rfl rfl rfl (ok_iadd 68 rfl rfl (by first | omega | (simp [up_if]; omega) | (simp [up_if] at *; omega)) (ok_lload 69 rfl rfl rfl (ok_last 70 rfl rfl rfl (by first | omega | (simp [up_if]; omega) | (simp [up_if] at *; omega)) (ok_inc6 71 rfl rfl rfl (by first | omega | (simp [up_if]; omega) | (simp [up_if] at *; omega)) (ok_goto 72 61 rfl rfl rfl ?_))))))))))
                refine ok_fg [some (vr 0), some (vi s), some (vi o), some (vi t), some (vi n), some (vi i), some (vi (j + 1)), none, none, none] ⟨rfl, rfl, rfl, rfl, rfl, rfl, rfl, trivial⟩ (ih2 (j + 1) _ ⟨by omega, by omega, fr_up i3 (by simp), fun k a b => ?_, fun x y p q r w => ?_⟩ (by omega))
                · rw [up_if]
                  split
                  · exact v3
                  · exact i4 k a (by omega)
                · rcases (by omega : (x < i ∨ (x = i ∧ y < j)) ∨ (x = i ∧ y = j)) with c | c
                  · rw [up_nk _ _ _ _ (fun e => by have := nx_inj ⟨q, r⟩ ⟨j1, jl⟩ e; omega)]; exact i5 x y p q r c
                  · rw [c.1, c.2, up_same, v5, show k = n by omega, en]; rfl
              · refine ok_lload 44 rfl rfl rfl (ok_aload_n 45 rfl rfl rfl (ok_iload_n 46 rfl rfl rfl (ok_iload 47 rfl rfl rfl (ok_iload 48 rfl rfl rfl (ok_callVI (M' := M_Mo_at) (as := [_, _, _]) 49 rfl rfl ml_X12_107 (s_Mo_at b1 ⟨s1, s2⟩ ⟨by omega, by omega⟩ ⟨by omega, by omega⟩) rfl rfl (Nat.le_of_ble_eq_true rfl) ⟨Nat.le_of_ble_eq_true rfl, Nat.le_of_ble_eq_true rfl⟩ rfl (Nat.le_of_ble_eq_true rfl) (fun σ' z hz => ?_))))))
                rw [hz.1, hz.2]
                clear hz z σ'
                refine ok_i2l 50 rfl rfl (ok_aload_n 51 rfl rfl rfl (ok_iload_n 52 rfl rfl rfl (ok_iload 53 rfl rfl rfl (ok_iload 54 rfl rfl rfl (ok_callVI (M' := M_Mo_at) (as := [_, _, _]) 55 rfl rfl ml_X12_107 (s_Mo_at b1 ⟨o1, o2⟩ ⟨by omega, by omega⟩ ⟨by omega, by omega⟩) rfl rfl (Nat.le_of_ble_eq_true rfl) ⟨Nat.le_of_ble_eq_true rfl, Nat.le_of_ble_eq_true rfl⟩ rfl (Nat.le_of_ble_eq_true rfl) (fun σ' z hz => ?_))))))
                rw [hz.1, hz.2]; clear hz z σ'
                have p1 := cB_bd b1 ⟨s1, s2⟩ (i := i) (j := k) ⟨by omega, by omega⟩ ⟨by omega, by omega⟩
                have p2 := cB_bd b1 ⟨o1, o2⟩ (i := k) (j := j) ⟨by omega, by omega⟩ ⟨by omega, by omega⟩
                have p3 := mul_bd p1 p2
                refine ok_i2l 56 rfl rfl (ok_lmul 57 rfl rfl (by first | omega | (simp [up_if]; omega) | (simp [up_if] at *; omega)) (ok_ladd 58 rfl rfl (by first | omega | (simp [up_if]; omega) | (simp [up_if] at *; omega)) (ok_lst7 59 rfl rfl rfl (ok_inc9 60 rfl rfl rfl (by first | omega | (simp [up_if]; omega) | (simp [up_if] at *; omega)) (ok_goto 61 74 rfl rfl rfl ?_)))))
                exact ih3 _ (k + 1) ⟨by omega, by omega, by omega, by omega, by rw [es, ← v5, cB_cg tk, cB_cg tk]⟩ (by omega)
        · refine ok_iconst 20 rfl rfl (by decide) (ok_zret 21 rfl rfl rfl (by first | omega | (simp [up_if]; omega) | (simp [up_if] at *; omega)) ?_)
          exact ⟨_, rfl, ⟨fr.rf, hB, Or.inl rfl⟩, Or.inl ⟨rfl, tbK_rf _, fun q => absurd q.2.2.2 (by omega)⟩⟩
end
section
theorem lcS_big {a b l : Int} (ha : 1 ≤ a) (hb : 1 ≤ b) (h : l < a ∨ l < b) : lcS a b l = -1 := by
  unfold lcS
  rw [if_neg (by omega), if_pos]
  rw [lc_eq ha hb]
  have p := Int.lcm_pos (m := a) (n := b) (by omega) (by omega)
  have d1 := Int.le_of_dvd (by omega) (Int.dvd_lcm_left a b)
  have d2 := Int.le_of_dvd (by omega) (Int.dvd_lcm_right a b)
  omega
theorem lcS_val {a b l : Int} (ha : 1 ≤ a) (hb : 1 ≤ b) : lcS a b l = if l < a / (Int.gcd a b : Int) * b then -1 else a / (Int.gcd a b : Int) * b := by
  unfold lcS
  rw [if_neg (by omega)]
def mxB (σ : eS) (s o x d u e : Int) : Int → Int → Int := fun i j => x * cB σ s i j * d + u * cB σ o i j * e
def MXB (σ : eS) (s o t x y u v : Int) (σ' : eS) (z : Int) : Prop :=
  (z = 0 ∧ tbK σ σ' ∧ lcS (y * σ 2 s) (v * σ 2 o) 1000000000 = -1) ∨
  (1 ≤ lcS (y * σ 2 s) (v * σ 2 o) 1000000000 ∧ ((z = 0 ∧ tbK σ σ' ∧ ∃ i j, 0 ≤ i ∧ i < σ 1 s ∧ 0 ≤ j ∧ j < σ 1 s ∧ 1000000000000000 < mxB σ s o x (lcS (y * σ 2 s) (v * σ 2 o) 1000000000 / (y * σ 2 s)) u (lcS (y * σ 2 s) (v * σ 2 o) 1000000000 / (v * σ 2 o)) i j) ∨
   ((∀ i j, 0 ≤ i → i < σ 1 s → 0 ≤ j → j < σ 1 s → mxB σ s o x (lcS (y * σ 2 s) (v * σ 2 o) 1000000000 / (y * σ 2 s)) u (lcS (y * σ 2 s) (v * σ 2 o) 1000000000 / (v * σ 2 o)) i j ≤ 1000000000000000) ∧ MB σ t (σ 1 s) (lcS (y * σ 2 s) (v * σ 2 o) 1000000000) (mxB σ s o x (lcS (y * σ 2 s) (v * σ 2 o) 1000000000 / (y * σ 2 s)) u (lcS (y * σ 2 s) (v * σ 2 o) 1000000000 / (v * σ 2 o))) σ' z)))
def XmB (σ : eS) (s x y o u v t : Int) (σ' : eS) (z : Int) : Prop := (z = 0 ∧ tbK σ σ' ∧ ¬ (shr x y ∧ shr u v ∧ likeB σ s o t)) ∨ ((shr x y ∧ shr u v ∧ likeB σ s o t) ∧ MXB σ s o t x y u v σ' z)
theorem t_Mo_mix {σ : eS} {s x y o u v t : Int} (hB : iB1 σ) : MtI shB M_Mo_mix [vr 0, vi s, vi x, vi y, vi o, vi u, vi v, vi t] σ (fun σ' z => QM σ σ' z ∧ XmB σ s x y o u v t σ' z) := by
  refine Mt.of okM_Mo_mix (Nat.le_of_ble_eq_true rfl) (fun hk hg => ?_)
  have no : ∀ R : Prop, ¬ R → (¬ R → ¬ (shr x y ∧ shr u v ∧ likeB σ s o t)) → ∃ z : Int, some (vi 0) = some (vi z) ∧ QM σ σ z ∧ XmB σ s x y o u v t σ z := fun R h1 h2 => ⟨0, rfl, ⟨fr.rf, hB, Or.inl rfl⟩, Or.inl ⟨rfl, tbK_rf _, h2 h1⟩⟩
  refine ok_aload_n 0 rfl rfl rfl (ok_iload_n 1 rfl rfl rfl (ok_callVI (M' := M_Mo_isTable) (as := [_]) 2 rfl rfl ml_X12_111 (s_Mo_isTable_r) rfl rfl (Nat.le_of_ble_eq_true rfl) ⟨Nat.le_of_ble_eq_true rfl, Nat.le_of_ble_eq_true rfl⟩ rfl (Nat.le_of_ble_eq_true rfl) (fun σ' z1 a1 => ?_)))
  obtain ⟨hs_, a1⟩ := a1
  rw [hs_]; clear hs_ σ'
  refine ok_if_eq 3 59 rfl rfl rfl (fun h5 => ?_) (fun h5 => ?_)
  · refine ok_iconst 28 rfl rfl (by decide) (ok_zret 29 rfl rfl rfl (by first | omega | (simp [up_if]; omega) | (simp [up_if] at *; omega)) ?_)
    exact no _ (no1 a1 h5) (fun w q => w q.2.2.1)
  · refine ok_aload_n 4 rfl rfl rfl (ok_iload 5 rfl rfl rfl (ok_callVI (M' := M_Mo_isTable) (as := [_]) 6 rfl rfl ml_X12_111 (s_Mo_isTable_r) rfl rfl (Nat.le_of_ble_eq_true rfl) ⟨Nat.le_of_ble_eq_true rfl, Nat.le_of_ble_eq_true rfl⟩ rfl (Nat.le_of_ble_eq_true rfl) (fun σ' z2 a2 => ?_)))
    obtain ⟨hs_, a2⟩ := a2
    rw [hs_]; clear hs_ σ'
    refine ok_if_eq 7 59 rfl rfl rfl (fun h14 => ?_) (fun h14 => ?_)
    · refine ok_iconst 28 rfl rfl (by decide) (ok_zret 29 rfl rfl rfl (by first | omega | (simp [up_if]; omega) | (simp [up_if] at *; omega)) ?_)
      exact no _ (no1 a2 h14) (fun w q => w q.2.2.2.1)
    · refine ok_iload 8 rfl rfl rfl (ok_callSI (M' := M_Mo_isSlot) (as := [_]) 9 rfl rfl ml_X12_103 (s_Mo_isSlot_r) ⟨Nat.le_of_ble_eq_true rfl, Nat.le_of_ble_eq_true rfl⟩ rfl (Nat.le_of_ble_eq_true rfl) (fun σ' z3 a3 => ?_))
      obtain ⟨hs_, a3⟩ := a3
      rw [hs_]; clear hs_ σ'
      refine ok_if_eq 10 59 rfl rfl rfl (fun h22 => ?_) (fun h22 => ?_)
      · refine ok_iconst 28 rfl rfl (by decide) (ok_zret 29 rfl rfl rfl (by first | omega | (simp [up_if]; omega) | (simp [up_if] at *; omega)) ?_)
        exact no _ (no1 a3 h22) (fun w q => w q.2.2.2.2.1)
      · have hs : tabB σ s := yes1 a1 h5
        have ho : tabB σ o := yes1 a2 h14
        have ht := yes1 a3 h22
        obtain ⟨s1, s2, s3⟩ := id hs
        obtain ⟨o1, o2, o3⟩ := id ho
        obtain ⟨g1, g2, g3⟩ := hB.1 s s1 s2
        obtain ⟨k1, k2, k3⟩ := hB.1 o o1 o2
        refine ok_aload_n 11 rfl rfl rfl (ok_getR 12 rfl rfl fl_X12_7 rfl rfl (ok_iload_n 13 rfl rfl rfl (ok_iald 14 rfl rfl rfl (by first | omega | (simp [up_if]; omega) | (simp [up_if] at *; omega)) (ok_aload_n 15 rfl rfl rfl (ok_getR 16 rfl rfl fl_X12_7 rfl rfl (ok_iload 17 rfl rfl rfl (ok_iald 18 rfl rfl rfl (by first | omega | (simp [up_if]; omega) | (simp [up_if] at *; omega)) (ok_icmp_ne 19 59 rfl rfl rfl (fun h38 => ?_) (fun h38 => ?_)))))))))
        · refine ok_iconst 28 rfl rfl (by decide) (ok_zret 29 rfl rfl rfl (by first | omega | (simp [up_if]; omega) | (simp [up_if] at *; omega)) ?_)
          exact no _ h38 (fun w q => w q.2.2.2.2.2)
        · refine ok_iload_n 20 rfl rfl rfl (ok_iload_n 21 rfl rfl rfl (ok_callSI (M' := M_Mo_isPart) (as := [_, _]) 22 rfl rfl ml_X12_221 (s_Mo_isPart) ⟨Nat.le_of_ble_eq_true rfl, Nat.le_of_ble_eq_true rfl⟩ rfl (Nat.le_of_ble_eq_true rfl) (fun σ' z4 a4 => ?_)))
          obtain ⟨hs_, a4⟩ := a4
          rw [hs_]; clear hs_ σ'
          refine ok_if_eq 23 59 rfl rfl rfl (fun h46 => ?_) (fun h46 => ?_)
          · refine ok_iconst 28 rfl rfl (by decide) (ok_zret 29 rfl rfl rfl (by first | omega | (simp [up_if]; omega) | (simp [up_if] at *; omega)) ?_)
            exact no _ (no1 a4 h46) (fun w q => w q.1)
          · refine ok_iload 24 rfl rfl rfl (ok_iload 25 rfl rfl rfl (ok_callSI (M' := M_Mo_isPart) (as := [_, _]) 26 rfl rfl ml_X12_221 (s_Mo_isPart) ⟨Nat.le_of_ble_eq_true rfl, Nat.le_of_ble_eq_true rfl⟩ rfl (Nat.le_of_ble_eq_true rfl) (fun σ' z5 a5 => ?_)))
            obtain ⟨hs_, a5⟩ := a5
            rw [hs_]; clear hs_ σ'
            refine ok_if_ne 27 61 rfl rfl rfl (fun h56 => ?_) (fun h56 => ?_)
            · have p1 := yes1 a4 h46
              have p2 := yes1 a5 h56
              have hl : shr x y ∧ shr u v ∧ likeB σ s o t := ⟨p1, p2, hs, ho, ht, by omega⟩
              obtain ⟨n, en⟩ : ∃ x, x = σ 1 s := ⟨_, rfl⟩
              obtain ⟨x1, x2⟩ := sq8 (n := n) ⟨by omega, by omega⟩
              obtain ⟨A, eA⟩ : ∃ w, w = y * σ 2 s := ⟨_, rfl⟩
              obtain ⟨B, eB⟩ : ∃ w, w = v * σ 2 o := ⟨_, rfl⟩
              have bA := mul_bd (a := y) (b := σ 2 s) (A := 9999) (B := 999999) ⟨by omega, by omega⟩ ⟨by omega, by omega⟩
              have bA' := Int.mul_pos (by omega : 0 < y) (by omega : 0 < σ 2 s)
              have bB := mul_bd (a := v) (b := σ 2 o) (A := 9999) (B := 999999) ⟨by omega, by omega⟩ ⟨by omega, by omega⟩
              have bB' := Int.mul_pos (by omega : 0 < v) (by omega : 0 < σ 2 o)
              rw [← eA] at bA bA'
              rw [← eB] at bB bB'
              have no2 : lcS A B 1000000000 = -1 → ∃ z : Int, some (vi 0) = some (vi z) ∧ QM σ σ z ∧ XmB σ s x y o u v t σ z := fun h1 => ⟨0, rfl, ⟨fr.rf, hB, Or.inl rfl⟩, Or.inr ⟨hl, Or.inl ⟨rfl, tbK_rf _, by rw [← eA, ← eB]; exact h1⟩⟩⟩
              refine ok_iload_n 30 rfl rfl rfl (ok_i2l 31 rfl rfl (ok_aload_n 32 rfl rfl rfl (ok_getR 33 rfl rfl fl_X12_13 rfl rfl (ok_iload_n 34 rfl rfl rfl (ok_iald 35 rfl rfl rfl (by first | omega | (simp [up_if]; omega) | (simp [up_if] at *; omega)) (ok_i2l 36 rfl rfl (ok_lmul 37 rfl rfl (by rw [← eA]; omega) (ok_lst8 38 rfl rfl rfl (ok_iload 39 rfl rfl rfl (ok_i2l 40 rfl rfl (ok_aload_n 41 rfl rfl rfl (ok_getR 42 rfl rfl fl_X12_13 rfl rfl (ok_iload 43 rfl rfl rfl (ok_iald 44 rfl rfl rfl (by first | omega | (simp [up_if]; omega) | (simp [up_if] at *; omega)) (ok_i2l 45 rfl rfl (ok_lmul 46 rfl rfl (by rw [← eB]; omega) (ok_lst10 47 rfl rfl rfl ?_)))))))))))))))))
              rw [← eA, ← eB]
              refine ok_lload 48 rfl rfl rfl (ok_ldc2 49 (1000000000) rfl rfl kc_X12_224 (by decide) (ok_lcmp_gt 50 51 105 rfl rfl rfl rfl rfl (fun h92 => ?_) (fun h92 => ?_)))
              · refine ok_iconst 56 rfl rfl (by decide) (ok_zret 57 rfl rfl rfl (by first | omega | (simp [up_if]; omega) | (simp [up_if] at *; omega)) ?_)
                exact no2 (lcS_big (by omega) (by omega) (by omega))
              · refine ok_lload 52 rfl rfl rfl (ok_ldc2 53 (1000000000) rfl rfl kc_X12_224 (by decide) (ok_lcmp_le 54 55 107 rfl rfl rfl rfl rfl (fun h101 => ?_) (fun h101 => ?_)))
                · obtain ⟨c1, c2⟩ := gcd_pos (a := A) (b := B) (by omega)
                  have hv := lcS_val (a := A) (b := B) (l := 1000000000) (by omega) (by omega)
                  obtain ⟨c3, c4⟩ := gcd_div (by omega : 1 ≤ A) c1 c2
                  obtain ⟨E, eE⟩ : ∃ w, w = A / (Int.gcd A B : Int) := ⟨_, rfl⟩
                  rw [← eE] at c3 c4 hv
                  obtain ⟨F, eF⟩ : ∃ w, w = E * B := ⟨_, rfl⟩
                  have c5 := mul_bd (a := E) (b := B) (A := 1000000000) (B := 1000000000) ⟨by omega, by omega⟩ ⟨by omega, by omega⟩
                  have c6 := Int.mul_pos (by omega : 0 < E) (by omega : 0 < B)
                  rw [← eF] at c5 c6 hv
                  refine ok_lload 58 rfl rfl rfl (ok_lload 59 rfl rfl rfl (ok_lload 60 rfl rfl rfl (ok_callSL (M' := M_Mo_common) (as := [_, _]) 61 rfl rfl ml_X12_89 (s_Mo_common (by omega) (by omega)) ⟨Nat.le_of_ble_eq_true rfl, Nat.le_of_ble_eq_true rfl⟩ rfl (Nat.le_of_ble_eq_true rfl) (fun σ' z hz => ?_))))
                  rw [hz.1, hz.2]; clear hz z σ'
                  refine ok_ldiv 62 rfl rfl (by omega) (by omega) (ok_lload 63 rfl rfl rfl (ok_lmul 64 rfl rfl (by rw [← eE, ← eF]; omega) (ok_lst12 65 rfl rfl rfl ?_)))
                  rw [← eE, ← eF]
                  refine ok_lload 66 rfl rfl rfl (ok_ldc2 67 (1000000000) rfl rfl kc_X12_224 (by decide) (ok_lcmp_le 68 69 133 rfl rfl rfl rfl rfl (fun h127 => ?_) (fun h127 => ?_)))
                  · refine ok_aload_n 72 rfl rfl rfl (ok_getR 73 rfl rfl fl_X12_7 rfl rfl (ok_iload_n 74 rfl rfl rfl (ok_iald 75 rfl rfl rfl (by first | omega | (simp [up_if]; omega) | (simp [up_if] at *; omega)) (ok_ist14 76 rfl rfl rfl (ok_iconst 77 rfl rfl (by decide) (ok_ist15 78 rfl rfl rfl ?_))))))
                    rw [← en]
                    rw [if_neg (by omega)] at hv
                    obtain ⟨d1, d2⟩ := div_bd (u := F) (g := A) (B := 1000000000) ⟨by omega, by omega⟩ (by omega)
                    obtain ⟨d3, d4⟩ := div_bd (u := F) (g := B) (B := 1000000000) ⟨by omega, by omega⟩ (by omega)
                    obtain ⟨d5, d6⟩ := mul_bd (a := x) (b := F / A) (A := 9999) (B := 1000000000) ⟨by omega, by omega⟩ ⟨by omega, by omega⟩
                    obtain ⟨d7, d8⟩ := mul_bd (a := u) (b := F / B) (A := 9999) (B := 1000000000) ⟨by omega, by omega⟩ ⟨by omega, by omega⟩
                    obtain ⟨G, eG⟩ : ∃ G : Int → Int, G = fun q => x * σ 3 (64 * s + q) * (F / A) + u * σ 3 (64 * o + q) * (F / B) := ⟨_, rfl⟩
                    have hG : ∀ q, G q = x * σ 3 (64 * s + q) * (F / A) + u * σ 3 (64 * o + q) * (F / B) := fun q => by rw [eG]
                    have hGm : ∀ i j, G (n * i + j) = mxB σ s o x (lcS (y * σ 2 s) (v * σ 2 o) 1000000000 / (y * σ 2 s)) u (lcS (y * σ 2 s) (v * σ 2 o) 1000000000 / (v * σ 2 o)) i j := fun i j => by
                      have on : σ 1 o = n := by have := hl.2.2.2.2.2; omega
                      unfold mxB cB
                      rw [hG, ← eA, ← eB, hv, on, ← en, Int.add_assoc, Int.add_assoc (64 * o)]
                    clear eG
                    have fin : ∀ τ : eS, fr (fun c k => (c = 0 ∧ k = 4) ∨ c = 4) σ τ → iB1 τ → ∀ k, 0 ≤ k → k < n * n → 1000000000000000 < G k → ∃ z : Int, some (vi 0) = some (vi z) ∧ QM σ τ z ∧ XmB σ s x y o u v t τ z := fun τ f b1 k k0 kn hk => by
                      obtain ⟨i, j, a1, a2, a3, a4, a5⟩ := dm_n (by omega) k0 kn
                      refine ⟨0, rfl, ⟨f.mono (fun c k q => by simp only [rgM]; omega), b1, Or.inl rfl⟩, Or.inr ⟨hl, Or.inr ⟨by rw [← eA, ← eB, hv]; omega, Or.inl ⟨rfl, tbK_M f, i, j, a1, by omega, a3, by omega, ?_⟩⟩⟩⟩
                      rw [← hGm, ← a5]; exact hk
                    refine lpO2 (fun (k : Int) (_ : eS) => [some (vr 0), some (vi s), some (vi x), some (vi y), some (vi o), some (vi u), some (vi v), some (vi t), some (vl A), none, some (vl B), none, some (vl F), none, some (vi n), some (vi k), none, none, none, none]) (fun _ τ => τ) (fun k τ => 0 ≤ k ∧ k ≤ n * n ∧ fr (fun c k => (c = 0 ∧ k = 4) ∨ c = 4) σ τ ∧ (∀ j, 0 ≤ j → j < 64 → 0 ≤ τ 4 j) ∧ ∀ q, 0 ≤ q → q < k → τ 4 q = G q ∧ G q ≤ 1000000000000000) (fun k _ => (n * n - k).toNat) ?_ 0 σ ⟨by omega, by omega, fr.rf, hB.2.2, fun q a b => by omega⟩
                    rintro k τ ⟨i1, i2, i3, i4, i5⟩ ih
                    obtain ⟨b1, b2⟩ := iB1_M hB i3 i4
                    have fQ : fr rgM σ τ := i3.mono (fun c k q => by simp only [rgM]; omega)
                    refine ok_iload 79 rfl rfl rfl (ok_iload 80 rfl rfl rfl (ok_iload 81 rfl rfl rfl (ok_imul 82 rfl rfl (by first | omega | (simp [up_if]; omega) | (simp [up_if] at *; omega)) (ok_icmp_ge 83 254 rfl rfl rfl (fun h151 => ?_) (fun h151 => ?_)))))
                    · refine ok_aload_n 143 rfl rfl rfl (ok_lload 144 rfl rfl rfl (ok_putL 145 rfl rfl fl_X12_85 rfl rfl rfl rfl (ok_aload_n 146 rfl rfl rfl (ok_iload 147 rfl rfl rfl (ok_iload 148 rfl rfl rfl (ok_callVI (M' := M_Mo_takes) (as := [_, _]) 149 rfl rfl ml_X12_179 (s_Mo_takes ht ⟨by omega, by omega⟩ (by rw [up_same]; omega) (fun k a b => by rw [up_ne _ _ _ _ (by decide)]; exact i4 k a (by omega))) rfl rfl (Nat.le_of_ble_eq_true rfl) ⟨Nat.le_of_ble_eq_true rfl, Nat.le_of_ble_eq_true rfl⟩ rfl (Nat.le_of_ble_eq_true rfl) (fun σ' z hz => ?_)))))))
                      have hq := Qtk.M (b1.fr (fun c k q => by rw [up_ne _ _ _ _ (by omega)])) ht ⟨by omega, by omega⟩ (by rw [up_same]; omega) (fun k a b => by rw [up_ne _ _ _ _ (by decide)]; exact i4 k a (by omega)) hz
                      have hm := Qtk.B ⟨by omega, by omega⟩ (by rw [up_same]; omega) hz
                      rw [up_same] at hm
                      refine ok_zret 150 rfl rfl rfl (by have := hq.2.2; omega) ?_
                      refine ⟨_, rfl, hq.tr (fr_up fQ (by simp [rgM])), Or.inr ⟨hl, Or.inr ⟨by rw [← eA, ← eB, hv]; omega, Or.inr ⟨fun i j a1 a2 a3 a4 => ?_, ?_⟩⟩⟩⟩
                      · obtain ⟨y1, y2, y3, y4⟩ := ix8 (n := n) (i := i) (j := j) ⟨by omega, by omega⟩ ⟨by omega, by omega⟩ ⟨by omega, by omega⟩
                        rw [← hGm]
                        exact (i5 _ (by omega) (by omega)).2
                      · have hL : lcS (y * σ 2 s) (v * σ 2 o) 1000000000 = F := by rw [← eA, ← eB, hv]
                        have hm2 := MB_cg (f' := mxB σ s o x (lcS (y * σ 2 s) (v * σ 2 o) 1000000000 / (y * σ 2 s)) u (lcS (y * σ 2 s) (v * σ 2 o) 1000000000 / (v * σ 2 o))) hm (tbK_M (fr_up i3 (by omega))) (fun i j a1 a2 a3 a4 => by
                          obtain ⟨y1, y2, y3, y4⟩ := ix8 (n := n) (i := i) (j := j) ⟨by omega, by omega⟩ ⟨by omega, by omega⟩ ⟨by omega, by omega⟩
                          show up τ 0 4 _ 4 _ = _
                          rw [up_ne _ _ _ _ (by decide), ← hGm]
                          exact (i5 _ (by omega) (by omega)).1)
                        rw [← hL, en] at hm2
                        exact hm2
                    · have cs := b1.2.1 (64 * s + k) (by omega) (by omega)
                      have co := b1.2.1 (64 * o + k) (by omega) (by omega)
                      have hGk := hG k
                      rw [← i3 3 (64 * s + k) (by omega), ← i3 3 (64 * o + k) (by omega)] at hGk
                      have w1 : x * (F / A) * τ 3 (64 * s + k) = x * τ 3 (64 * s + k) * (F / A) := Int.mul_right_comm _ _ _
                      have w2 : u * (F / B) * τ 3 (64 * o + k) = u * τ 3 (64 * o + k) * (F / B) := Int.mul_right_comm _ _ _
                      have w3 := Int.mul_nonneg d5 cs.1
                      have w4 := Int.mul_nonneg d7 co.1
                      refine ok_iload_n 84 rfl rfl rfl (ok_i2l 85 rfl rfl (ok_lload 86 rfl rfl rfl (ok_lload 87 rfl rfl rfl (ok_ldiv 88 rfl rfl (by omega) (by omega) (ok_lmul 89 rfl rfl (by first | omega | (simp [up_if]; omega) | (simp [up_if] at *; omega)) (ok_aload_n 90 rfl rfl rfl (ok_getR 91 rfl rfl fl_X12_16 rfl rfl (ok_bipush 92 rfl rfl (by decide) (by decide) (ok_iload_n 93 rfl rfl rfl (ok_imul 94 rfl rfl (by first | omega | (simp [up_if]; omega) | (simp [up_if] at *; omega)) (ok_iload 95 rfl rfl rfl (ok_iadd 96 rfl rfl (by first | omega | (simp [up_if]; omega) | (simp [up_if] at *; omega)) (ok_iald 97 rfl rfl rfl (by first | omega | (simp [up_if]; omega) | (simp [up_if] at *; omega)) (ok_i2l 98 rfl rfl (ok_callSL (M' := M_Mo_grown) (as := [_, _]) 99 rfl rfl ml_X12_226 (s_Mo_grown ⟨by omega, by omega⟩ ⟨by omega, by omega⟩) ⟨Nat.le_of_ble_eq_true rfl, Nat.le_of_ble_eq_true rfl⟩ rfl (Nat.le_of_ble_eq_true rfl) (fun σ' p hp => ?_))))))))))))))))
                      obtain ⟨hs_, hp⟩ := hp
                      rw [hs_]; clear hs_ σ'
                      refine ok_lst16 100 rfl rfl rfl (ok_iload 101 rfl rfl rfl (ok_i2l 102 rfl rfl (ok_lload 103 rfl rfl rfl (ok_lload 104 rfl rfl rfl (ok_ldiv 105 rfl rfl (by omega) (by omega) (ok_lmul 106 rfl rfl (by first | omega | (simp [up_if]; omega) | (simp [up_if] at *; omega)) (ok_aload_n 107 rfl rfl rfl (ok_getR 108 rfl rfl fl_X12_16 rfl rfl (ok_bipush 109 rfl rfl (by decide) (by decide) (ok_iload 110 rfl rfl rfl (ok_imul 111 rfl rfl (by first | omega | (simp [up_if]; omega) | (simp [up_if] at *; omega)) (ok_iload 112 rfl rfl rfl (ok_iadd 113 rfl rfl (by first | omega | (simp [up_if]; omega) | (simp [up_if] at *; omega)) (ok_iald 114 rfl rfl rfl (by first | omega | (simp [up_if]; omega) | (simp [up_if] at *; omega)) (ok_i2l 115 rfl rfl (ok_callSL (M' := M_Mo_grown) (as := [_, _]) 116 rfl rfl ml_X12_226 (s_Mo_grown ⟨by omega, by omega⟩ ⟨by omega, by omega⟩) ⟨Nat.le_of_ble_eq_true rfl, Nat.le_of_ble_eq_true rfl⟩ rfl (Nat.le_of_ble_eq_true rfl) (fun σ' q hq => ?_)))))))))))))))))
                      obtain ⟨hs_, hq⟩ := hq
                      rw [hs_]; clear hs_ σ'
                      refine ok_lst18 117 rfl rfl rfl (ok_lload 118 rfl rfl rfl (ok_lconst (w := 0) 119 rfl rfl rfl (by decide) (ok_lcmp_lt 120 121 234 rfl rfl rfl rfl rfl (fun h211 => ?_) (fun h211 => ?_))))
                      · refine ok_iconst 132 rfl rfl (by decide) (ok_zret 133 rfl rfl rfl (by first | omega | (simp [up_if]; omega) | (simp [up_if] at *; omega)) ?_)
                        exact fin τ i3 b1 k i1 (by omega) (by omega)
                      · refine ok_lload 122 rfl rfl rfl (ok_lconst (w := 0) 123 rfl rfl rfl (by decide) (ok_lcmp_lt 124 125 234 rfl rfl rfl rfl rfl (fun h218 => ?_) (fun h218 => ?_)))
                        · refine ok_iconst 132 rfl rfl (by decide) (ok_zret 133 rfl rfl rfl (by first | omega | (simp [up_if]; omega) | (simp [up_if] at *; omega)) ?_)
                          exact fin τ i3 b1 k i1 (by omega) (by omega)
                        · refine ok_lload 126 rfl rfl rfl (ok_lload 127 rfl rfl rfl (ok_ladd 128 rfl rfl (by first | omega | (simp [up_if]; omega) | (simp [up_if] at *; omega)) (ok_ldc2 129 (1000000000000000) rfl rfl kc_X12_217 (by decide) (ok_lcmp_le 130 131 236 rfl rfl rfl rfl rfl (fun h230 => ?_) (fun h230 => ?_)))))
                          · refine ok_aload_n 134 rfl rfl rfl (ok_getR 135 rfl rfl fl_X12_19 rfl rfl (ok_iload 136 rfl rfl rfl (ok_lload 137 rfl rfl rfl (ok_lload 138 rfl rfl rfl (ok_ladd 139 rfl rfl (by first | omega | (simp [up_if]; omega) | (simp [up_if] at *; omega)) (ok_last 140 rfl rfl rfl (by first | omega | (simp [up_if]; omega) | (simp [up_if] at *; omega)) (ok_inc15 141 rfl rfl rfl (by first | omega | (simp [up_if]; omega) | (simp [up_if] at *; omega)) (ok_goto 142 144 rfl rfl rfl ?_))))))))
                            refine ok_fg [some (vr 0), some (vi s), some (vi x), some (vi y), some (vi o), some (vi u), some (vi v), some (vi t), some (vl A), none, some (vl B), none, some (vl F), none, some (vi n), some (vi (k + 1)), none, none, none, none] ⟨rfl, rfl, rfl, rfl, rfl, rfl, rfl, rfl, rfl, rfl, rfl, rfl, rfl, trivial⟩ (ih (k + 1) _ ⟨by omega, by omega, fr_up i3 (by simp), fun j a b => ?_, fun c a b => ?_⟩ (by omega))
                            · rw [up_if]
                              split
                              · omega
                              · exact i4 j a (by omega)
                            · rcases (by omega : c < k ∨ c = k) with w | w
                              · rw [up_nk _ _ _ _ (by omega)]; exact i5 c a w
                              · rw [w, up_same]; exact ⟨by omega, by omega⟩
                          · refine ok_iconst 132 rfl rfl (by decide) (ok_zret 133 rfl rfl rfl (by first | omega | (simp [up_if]; omega) | (simp [up_if] at *; omega)) ?_)
                            exact fin τ i3 b1 k i1 (by omega) (by omega)
                  · refine ok_iconst 70 rfl rfl (by decide) (ok_zret 71 rfl rfl rfl (by first | omega | (simp [up_if]; omega) | (simp [up_if] at *; omega)) ?_)
                    exact no2 (by rw [hv, if_pos (by omega)])
                · refine ok_iconst 56 rfl rfl (by decide) (ok_zret 57 rfl rfl rfl (by first | omega | (simp [up_if]; omega) | (simp [up_if] at *; omega)) ?_)
                  exact no2 (lcS_big (by omega) (by omega) (by omega))
            · refine ok_iconst 28 rfl rfl (by decide) (ok_zret 29 rfl rfl rfl (by first | omega | (simp [up_if]; omega) | (simp [up_if] at *; omega)) ?_)
              exact no _ (no1 a5 h56) (fun w q => w q.2.1)
def tuB (σ : eS) (s w r n : Int) : Int → Int → Int := fun i j => cB σ s (tnR w r n i j) (tnC w r n i j)
def XuB (σ : eS) (s w r t : Int) (σ' : eS) (z : Int) : Prop := (z = 0 ∧ tbK σ σ' ∧ ¬ okU (σ 1 s) s w r t) ∨ (okU (σ 1 s) s w r t ∧ MB σ t (σ 1 s) (σ 2 s) (tuB σ s w r (σ 1 s)) σ' z)
theorem t_Mo_turn {σ : eS} {s w r t : Int} (hB : iB1 σ) : MtI shB M_Mo_turn [vr 0, vi s, vi w, vi r, vi t] σ (fun σ' z => QM σ σ' z ∧ XuB σ s w r t σ' z) := by
  refine Mt.of okM_Mo_turn (Nat.le_of_ble_eq_true rfl) (fun hk hg => ?_)
  have main : tabB σ s → (0 ≤ t ∧ t < 4) → (0 ≤ w ∧ w ≤ 5) → (3 < w → 0 ≤ r ∧ r < σ 1 s) → Ok shB M_Mo_turn 53 [some (vr 0), some (vi s), some (vi w), some (vi r), some (vi t), none, none, none, none, none] [] σ (fun σ' v => ∃ z, v = some (vi z) ∧ QM σ σ' z ∧ XuB σ s w r t σ' z) := by
    intro hs ht hw hr
    have hU : okU (σ 1 s) s w r t := ⟨⟨hs.1, hs.2.1, by have := hs.2.2; omega⟩, ht, hw, hr⟩
    obtain ⟨s1, s2, s3⟩ := id hs
    obtain ⟨g1, g2, g3⟩ := hB.1 s s1 s2
    obtain ⟨n, en⟩ : ∃ x, x = σ 1 s := ⟨_, rfl⟩
    rw [← en] at hr g1 g2 g3 s3
    obtain ⟨x1, x2⟩ := sq8 (n := n) ⟨by omega, by omega⟩
    refine ok_aload_n 30 rfl rfl rfl (ok_getR 31 rfl rfl fl_X12_7 rfl rfl (ok_iload_n 32 rfl rfl rfl (ok_iald 33 rfl rfl rfl (by first | omega | (simp [up_if]; omega) | (simp [up_if] at *; omega)) (ok_ist5 34 rfl rfl rfl (ok_iconst 35 rfl rfl (by decide) (ok_ist6 36 rfl rfl rfl ?_))))))
    rw [← en]
    refine lpO2 (fun (i : Int) (_ : eS) => [some (vr 0), some (vi s), some (vi w), some (vi r), some (vi t), some (vi n), some (vi i), none, none, none]) (fun _ τ => τ) (fun i τ => 0 ≤ i ∧ i ≤ n ∧ fr (fun c k => (c = 0 ∧ k = 4) ∨ c = 4) σ τ ∧ (∀ k, 0 ≤ k → k < 64 → 0 ≤ τ 4 k) ∧ ∀ x y, 0 ≤ x → x < i → 0 ≤ y → y < n → τ 4 (n * tgR w r n x y + tgC w r n x y) = cB σ s x y) (fun i _ => (n - i).toNat) ?_ 0 σ ⟨by omega, by omega, fr.rf, hB.2.2, fun x y p q => by omega⟩
    rintro i τ ⟨i1, i2, i3, i4, i5⟩ ih
    refine ok_iload 37 rfl rfl rfl (ok_iload 38 rfl rfl rfl (ok_icmp_ge 39 206 rfl rfl rfl (fun h68 => ?_) (fun h68 => ?_)))
    · obtain ⟨b1, b2⟩ := iB1_M hB i3 i4
      have bs := (b2 s)
      refine ok_aload_n 111 rfl rfl rfl (ok_aload_n 112 rfl rfl rfl (ok_getR 113 rfl rfl fl_X12_13 rfl rfl (ok_iload_n 114 rfl rfl rfl (ok_iald 115 rfl rfl rfl (by first | omega | (simp [up_if]; omega) | (simp [up_if] at *; omega)) (ok_i2l 116 rfl rfl (ok_putL 117 rfl rfl fl_X12_85 rfl rfl rfl rfl (ok_aload_n 118 rfl rfl rfl (ok_iload 119 rfl rfl rfl (ok_iload 120 rfl rfl rfl (ok_callVI (M' := M_Mo_takes) (as := [_, _]) 121 rfl rfl ml_X12_179 (s_Mo_takes ht ⟨by omega, by omega⟩ (by rw [up_same]; omega) (fun k a b => by rw [up_ne _ _ _ _ (by decide)]; exact i4 k a (by omega))) rfl rfl (Nat.le_of_ble_eq_true rfl) ⟨Nat.le_of_ble_eq_true rfl, Nat.le_of_ble_eq_true rfl⟩ rfl (Nat.le_of_ble_eq_true rfl) (fun σ' z hz => ?_)))))))))))
      have hq := Qtk.M (b1.fr (fun c k q => by rw [up_ne _ _ _ _ (by omega)])) ht ⟨by omega, by omega⟩ (by rw [up_same]; omega) (fun k a b => by rw [up_ne _ _ _ _ (by decide)]; exact i4 k a (by omega)) hz
      have hm := Qtk.B ⟨by omega, by omega⟩ (by rw [up_same]; omega) hz
      rw [up_same, bs.2] at hm
      refine ok_zret 122 rfl rfl rfl (by have := hq.2.2; omega) ?_
      refine ⟨_, rfl, hq.tr (fr_up (i3.mono (fun c k q => by simp only [rgM]; omega)) (by simp [rgM])), Or.inr ⟨hU, ?_⟩⟩
      rw [← en]
      refine MB_cg hm (tbK_M (fr_up i3 (by omega))) (fun x y p q r' c => ?_)
      obtain ⟨t1, t2, t3, t4⟩ := tn_tg (n := n) hw hr ⟨p, q⟩ ⟨r', c⟩
      have := i5 (tnR w r n x y) (tnC w r n x y) t1.1 (by omega) t2.1 t2.2
      rw [t3, t4] at this
      show up τ 0 4 _ 4 _ = _
      rw [up_ne _ _ _ _ (by decide)]
      exact this
    · refine ok_iconst 40 rfl rfl (by decide) (ok_ist7 41 rfl rfl rfl ?_)
      have il : i < n := by omega
      refine lpO2 (fun (j : Int) (_ : eS) => [some (vr 0), some (vi s), some (vi w), some (vi r), some (vi t), some (vi n), some (vi i), some (vi j), none, none]) (fun _ τ => τ) (fun j τ => 0 ≤ j ∧ j ≤ n ∧ fr (fun c k => (c = 0 ∧ k = 4) ∨ c = 4) σ τ ∧ (∀ k, 0 ≤ k → k < 64 → 0 ≤ τ 4 k) ∧ ∀ x y, 0 ≤ x → 0 ≤ y → y < n → (x < i ∨ (x = i ∧ y < j)) → τ 4 (n * tgR w r n x y + tgC w r n x y) = cB σ s x y) (fun j _ => (n - j).toNat) ?_ 0 τ ⟨by omega, by omega, i3, i4, fun x y p q r w => i5 x y p (by omega) q r⟩
      clear i3 i4 i5 τ
      rintro j τ ⟨j1, j2, i3, i4, i5⟩ ih2
      obtain ⟨b1, b2⟩ := iB1_M hB i3 i4
      have tk := tbK_M i3
      have bs := (b2 s).1
      have inner : j < n → ∀ a b : Int, a = tgR w r n i j → b = tgC w r n i j → Ok shB M_Mo_turn 171 [some (vr 0), some (vi s), some (vi w), some (vi r), some (vi t), some (vi n), some (vi i), some (vi j), some (vi a), some (vi b)] [] τ (fun σ' v => ∃ z, v = some (vi z) ∧ QM σ σ' z ∧ XuB σ s w r t σ' z) := by
        intro hj a b ea eb
        have hi := tg_in (n := n) (i := i) (j := j) hw hr ⟨by omega, by omega⟩ ⟨by omega, by omega⟩
        rw [← ea, ← eb] at hi
        obtain ⟨ha, hb⟩ := hi
        obtain ⟨y1, y2, y3, y4⟩ := ix8 (n := n) (i := a) (j := b) ⟨by omega, by omega⟩ ha hb
        have hc := cB_bd b1 ⟨s1, s2⟩ (i := i) (j := j) ⟨by omega, by omega⟩ ⟨by omega, by omega⟩
        refine ok_aload_n 93 rfl rfl rfl (ok_getR 94 rfl rfl fl_X12_19 rfl rfl (ok_iload 95 rfl rfl rfl (ok_iload 96 rfl rfl rfl (ok_imul 97 rfl rfl (by first | omega | (simp [up_if]; omega) | (simp [up_if] at *; omega)) (ok_iload 98 rfl rfl rfl (ok_iadd 99 rfl rfl (by first | omega | (simp [up_if]; omega) | (simp [up_if] at *; omega)) (ok_aload_n 100 rfl rfl rfl (ok_iload_n 101 rfl rfl rfl (ok_iload 102 rfl rfl rfl (ok_iload 103 rfl rfl rfl (ok_callVI (M' := M_Mo_at) (as := [_, _, _]) 104 rfl rfl ml_X12_107 (s_Mo_at b1 ⟨s1, s2⟩ ⟨by omega, by omega⟩ ⟨by omega, by omega⟩) rfl rfl (Nat.le_of_ble_eq_true rfl) ⟨Nat.le_of_ble_eq_true rfl, Nat.le_of_ble_eq_true rfl⟩ rfl (Nat.le_of_ble_eq_true rfl) (fun σ' z hz => ?_))))))))))))
        rw [hz.1, hz.2]
        clear hz z σ'
        refine ok_i2l 105 rfl rfl (ok_last 106 rfl rfl rfl (by first | omega | (simp [up_if]; omega) | (simp [up_if] at *; omega)) (ok_inc7 107 rfl rfl rfl (by first | omega | (simp [up_if]; omega) | (simp [up_if] at *; omega)) (ok_goto 108 74 rfl rfl rfl ?_)))
        refine ok_fg [some (vr 0), some (vi s), some (vi w), some (vi r), some (vi t), some (vi n), some (vi i), some (vi (j + 1)), none, none] ⟨rfl, rfl, rfl, rfl, rfl, rfl, rfl, rfl, trivial⟩ (ih2 (j + 1) _ ⟨by omega, by omega, fr_up i3 (by simp), fun k a b => ?_, fun x y p q r' c => ?_⟩ (by omega))
        · rw [up_if]
          split
          · omega
          · exact i4 k a b
        · rcases (by omega : (x < i ∨ (x = i ∧ y < j)) ∨ (x = i ∧ y = j)) with c | c
          · have hxy := tg_in (n := n) (i := x) (j := y) hw hr ⟨by omega, by omega⟩ ⟨by omega, by omega⟩
            rw [up_nk _ _ _ _ (fun e => by
              have e2 := nx_inj hxy.2 hb e
              rw [ea, eb] at e2
              have := tg_inj (n := n) hw hr ⟨by omega, by omega⟩ ⟨by omega, by omega⟩ ⟨by omega, by omega⟩ ⟨by omega, by omega⟩ e2.1 e2.2
              omega)]
            exact i5 x y p q r' c
          · rw [c.1, c.2, ← ea, ← eb, up_same, cB_cg tk]
      refine ok_iload 42 rfl rfl rfl (ok_iload 43 rfl rfl rfl (ok_icmp_ge 44 200 rfl rfl rfl (fun h78 => ?_) (fun h78 => ?_)))
      · refine ok_inc6 109 rfl rfl rfl (by first | omega | (simp [up_if]; omega) | (simp [up_if] at *; omega)) (ok_goto 110 64 rfl rfl rfl ?_)
        exact ok_fg [some (vr 0), some (vi s), some (vi w), some (vi r), some (vi t), some (vi n), some (vi (i + 1)), none, none, none] ⟨rfl, rfl, rfl, rfl, rfl, rfl, rfl, trivial⟩ (ih (i + 1) τ ⟨by omega, by omega, i3, i4, fun x y p q r' c => i5 x y p r' c (by omega)⟩ (by omega))
      · refine ok_iload_n 45 rfl rfl rfl (ok_iconst 46 rfl rfl (by decide) (ok_icmp_ne 47 91 rfl rfl rfl (fun h83 => ?_) (fun h83 => ?_)))
        · refine ok_iload_n 50 rfl rfl rfl (ok_iconst 51 rfl rfl (by decide) (ok_icmp_ne 52 106 rfl rfl rfl (fun h93 => ?_) (fun h93 => ?_)))
          · refine ok_iload_n 59 rfl rfl rfl (ok_iconst 60 rfl rfl (by decide) (ok_icmp_ne 61 122 rfl rfl rfl (fun h108 => ?_) (fun h108 => ?_)))
            · refine ok_iload 67 rfl rfl rfl (ok_ist8 68 rfl rfl rfl (ok_iload_n 69 rfl rfl rfl (ok_iconst 70 rfl rfl (by decide) (ok_icmp_ne 71 136 rfl rfl rfl (fun h128 => ?_) (fun h128 => ?_)))))
              · refine ok_iload_n 74 rfl rfl rfl (ok_iconst 75 rfl rfl (by decide) (ok_icmp_ne 76 151 rfl rfl rfl (fun h138 => ?_) (fun h138 => ?_)))
                · refine ok_iload_n 83 rfl rfl rfl (ok_iconst 84 rfl rfl (by decide) (ok_icmp_ne 85 167 rfl rfl rfl (fun h153 => ?_) (fun h153 => ?_)))
                  · refine ok_iload 91 rfl rfl rfl (ok_ist9 92 rfl rfl rfl ?_)
                    first | exact inner (by omega) _ _ (tgR_0 h83 h93 h108) (tgC_0 h128 h138 h153) | exact inner (by omega) _ _ (tgR_0 h83 h93 h108) (tgC_1 h128) | exact inner (by omega) _ _ (tgR_0 h83 h93 h108) (tgC_3 h128 h138) | exact inner (by omega) _ _ (tgR_0 h83 h93 h108) (tgC_5 h128 h138 h153 q3) | exact inner (by omega) _ _ (tgR_1 h83) (tgC_0 h128 h138 h153) | exact inner (by omega) _ _ (tgR_1 h83) (tgC_1 h128) | exact inner (by omega) _ _ (tgR_1 h83) (tgC_3 h128 h138) | exact inner (by omega) _ _ (tgR_1 h83) (tgC_5 h128 h138 h153 q3) | exact inner (by omega) _ _ (tgR_2 h83 h93) (tgC_0 h128 h138 h153) | exact inner (by omega) _ _ (tgR_2 h83 h93) (tgC_1 h128) | exact inner (by omega) _ _ (tgR_2 h83 h93) (tgC_3 h128 h138) | exact inner (by omega) _ _ (tgR_2 h83 h93) (tgC_5 h128 h138 h153 q3) | exact inner (by omega) _ _ (tgR_4 h83 h93 h108 q1) (tgC_0 h128 h138 h153) | exact inner (by omega) _ _ (tgR_4 h83 h93 h108 q1) (tgC_1 h128) | exact inner (by omega) _ _ (tgR_4 h83 h93 h108 q1) (tgC_3 h128 h138) | exact inner (by omega) _ _ (tgR_4 h83 h93 h108 q1) (tgC_5 h128 h138 h153 q3)
                  · refine ok_iload 86 rfl rfl rfl (ok_iload_n 87 rfl rfl rfl (ok_iload 88 rfl rfl rfl (ok_callSI (M' := M_Mo_behind) (as := [_, _, _]) 89 rfl rfl ml_X12_231 (s_Mo_behind ⟨by omega, by omega, by omega, by omega⟩) ⟨Nat.le_of_ble_eq_true rfl, Nat.le_of_ble_eq_true rfl⟩ rfl (Nat.le_of_ble_eq_true rfl) (fun σ' z2 q3 => ?_))))
                    obtain ⟨hs_, q3⟩ := q3
                    rw [hs_]; clear hs_ σ'
                    refine ok_goto 90 169 rfl rfl rfl (ok_ist9 92 rfl rfl rfl ?_)
                    first | exact inner (by omega) _ _ (tgR_0 h83 h93 h108) (tgC_0 h128 h138 h153) | exact inner (by omega) _ _ (tgR_0 h83 h93 h108) (tgC_1 h128) | exact inner (by omega) _ _ (tgR_0 h83 h93 h108) (tgC_3 h128 h138) | exact inner (by omega) _ _ (tgR_0 h83 h93 h108) (tgC_5 h128 h138 h153 q3) | exact inner (by omega) _ _ (tgR_1 h83) (tgC_0 h128 h138 h153) | exact inner (by omega) _ _ (tgR_1 h83) (tgC_1 h128) | exact inner (by omega) _ _ (tgR_1 h83) (tgC_3 h128 h138) | exact inner (by omega) _ _ (tgR_1 h83) (tgC_5 h128 h138 h153 q3) | exact inner (by omega) _ _ (tgR_2 h83 h93) (tgC_0 h128 h138 h153) | exact inner (by omega) _ _ (tgR_2 h83 h93) (tgC_1 h128) | exact inner (by omega) _ _ (tgR_2 h83 h93) (tgC_3 h128 h138) | exact inner (by omega) _ _ (tgR_2 h83 h93) (tgC_5 h128 h138 h153 q3) | exact inner (by omega) _ _ (tgR_4 h83 h93 h108 q1) (tgC_0 h128 h138 h153) | exact inner (by omega) _ _ (tgR_4 h83 h93 h108 q1) (tgC_1 h128) | exact inner (by omega) _ _ (tgR_4 h83 h93 h108 q1) (tgC_3 h128 h138) | exact inner (by omega) _ _ (tgR_4 h83 h93 h108 q1) (tgC_5 h128 h138 h153 q3)
                · refine ok_iload 77 rfl rfl rfl (ok_iconst 78 rfl rfl (by decide) (ok_isub 79 rfl rfl (by first | omega | (simp [up_if]; omega) | (simp [up_if] at *; omega)) (ok_iload 80 rfl rfl rfl (ok_isub 81 rfl rfl (by first | omega | (simp [up_if]; omega) | (simp [up_if] at *; omega)) (ok_goto 82 169 rfl rfl rfl (ok_ist9 92 rfl rfl rfl ?_))))))
                  first | exact inner (by omega) _ _ (tgR_0 h83 h93 h108) (tgC_0 h128 h138 h153) | exact inner (by omega) _ _ (tgR_0 h83 h93 h108) (tgC_1 h128) | exact inner (by omega) _ _ (tgR_0 h83 h93 h108) (tgC_3 h128 h138) | exact inner (by omega) _ _ (tgR_0 h83 h93 h108) (tgC_5 h128 h138 h153 q3) | exact inner (by omega) _ _ (tgR_1 h83) (tgC_0 h128 h138 h153) | exact inner (by omega) _ _ (tgR_1 h83) (tgC_1 h128) | exact inner (by omega) _ _ (tgR_1 h83) (tgC_3 h128 h138) | exact inner (by omega) _ _ (tgR_1 h83) (tgC_5 h128 h138 h153 q3) | exact inner (by omega) _ _ (tgR_2 h83 h93) (tgC_0 h128 h138 h153) | exact inner (by omega) _ _ (tgR_2 h83 h93) (tgC_1 h128) | exact inner (by omega) _ _ (tgR_2 h83 h93) (tgC_3 h128 h138) | exact inner (by omega) _ _ (tgR_2 h83 h93) (tgC_5 h128 h138 h153 q3) | exact inner (by omega) _ _ (tgR_4 h83 h93 h108 q1) (tgC_0 h128 h138 h153) | exact inner (by omega) _ _ (tgR_4 h83 h93 h108 q1) (tgC_1 h128) | exact inner (by omega) _ _ (tgR_4 h83 h93 h108 q1) (tgC_3 h128 h138) | exact inner (by omega) _ _ (tgR_4 h83 h93 h108 q1) (tgC_5 h128 h138 h153 q3)
              · refine ok_iload 72 rfl rfl rfl (ok_goto 73 169 rfl rfl rfl (ok_ist9 92 rfl rfl rfl ?_))
                first | exact inner (by omega) _ _ (tgR_0 h83 h93 h108) (tgC_0 h128 h138 h153) | exact inner (by omega) _ _ (tgR_0 h83 h93 h108) (tgC_1 h128) | exact inner (by omega) _ _ (tgR_0 h83 h93 h108) (tgC_3 h128 h138) | exact inner (by omega) _ _ (tgR_0 h83 h93 h108) (tgC_5 h128 h138 h153 q3) | exact inner (by omega) _ _ (tgR_1 h83) (tgC_0 h128 h138 h153) | exact inner (by omega) _ _ (tgR_1 h83) (tgC_1 h128) | exact inner (by omega) _ _ (tgR_1 h83) (tgC_3 h128 h138) | exact inner (by omega) _ _ (tgR_1 h83) (tgC_5 h128 h138 h153 q3) | exact inner (by omega) _ _ (tgR_2 h83 h93) (tgC_0 h128 h138 h153) | exact inner (by omega) _ _ (tgR_2 h83 h93) (tgC_1 h128) | exact inner (by omega) _ _ (tgR_2 h83 h93) (tgC_3 h128 h138) | exact inner (by omega) _ _ (tgR_2 h83 h93) (tgC_5 h128 h138 h153 q3) | exact inner (by omega) _ _ (tgR_4 h83 h93 h108 q1) (tgC_0 h128 h138 h153) | exact inner (by omega) _ _ (tgR_4 h83 h93 h108 q1) (tgC_1 h128) | exact inner (by omega) _ _ (tgR_4 h83 h93 h108 q1) (tgC_3 h128 h138) | exact inner (by omega) _ _ (tgR_4 h83 h93 h108 q1) (tgC_5 h128 h138 h153 q3)
            · refine ok_iload 62 rfl rfl rfl (ok_iload_n 63 rfl rfl rfl (ok_iload 64 rfl rfl rfl (ok_callSI (M' := M_Mo_behind) (as := [_, _, _]) 65 rfl rfl ml_X12_231 (s_Mo_behind ⟨by omega, by omega, by omega, by omega⟩) ⟨Nat.le_of_ble_eq_true rfl, Nat.le_of_ble_eq_true rfl⟩ rfl (Nat.le_of_ble_eq_true rfl) (fun σ' z1 q1 => ?_))))
              obtain ⟨hs_, q1⟩ := q1
              rw [hs_]; clear hs_ σ'
              refine ok_goto 66 124 rfl rfl rfl (ok_ist8 68 rfl rfl rfl (ok_iload_n 69 rfl rfl rfl (ok_iconst 70 rfl rfl (by decide) (ok_icmp_ne 71 136 rfl rfl rfl (fun h128 => ?_) (fun h128 => ?_)))))
              · refine ok_iload_n 74 rfl rfl rfl (ok_iconst 75 rfl rfl (by decide) (ok_icmp_ne 76 151 rfl rfl rfl (fun h138 => ?_) (fun h138 => ?_)))
                · refine ok_iload_n 83 rfl rfl rfl (ok_iconst 84 rfl rfl (by decide) (ok_icmp_ne 85 167 rfl rfl rfl (fun h153 => ?_) (fun h153 => ?_)))
                  · refine ok_iload 91 rfl rfl rfl (ok_ist9 92 rfl rfl rfl ?_)
                    first | exact inner (by omega) _ _ (tgR_0 h83 h93 h108) (tgC_0 h128 h138 h153) | exact inner (by omega) _ _ (tgR_0 h83 h93 h108) (tgC_1 h128) | exact inner (by omega) _ _ (tgR_0 h83 h93 h108) (tgC_3 h128 h138) | exact inner (by omega) _ _ (tgR_0 h83 h93 h108) (tgC_5 h128 h138 h153 q3) | exact inner (by omega) _ _ (tgR_1 h83) (tgC_0 h128 h138 h153) | exact inner (by omega) _ _ (tgR_1 h83) (tgC_1 h128) | exact inner (by omega) _ _ (tgR_1 h83) (tgC_3 h128 h138) | exact inner (by omega) _ _ (tgR_1 h83) (tgC_5 h128 h138 h153 q3) | exact inner (by omega) _ _ (tgR_2 h83 h93) (tgC_0 h128 h138 h153) | exact inner (by omega) _ _ (tgR_2 h83 h93) (tgC_1 h128) | exact inner (by omega) _ _ (tgR_2 h83 h93) (tgC_3 h128 h138) | exact inner (by omega) _ _ (tgR_2 h83 h93) (tgC_5 h128 h138 h153 q3) | exact inner (by omega) _ _ (tgR_4 h83 h93 h108 q1) (tgC_0 h128 h138 h153) | exact inner (by omega) _ _ (tgR_4 h83 h93 h108 q1) (tgC_1 h128) | exact inner (by omega) _ _ (tgR_4 h83 h93 h108 q1) (tgC_3 h128 h138) | exact inner (by omega) _ _ (tgR_4 h83 h93 h108 q1) (tgC_5 h128 h138 h153 q3)
                  · refine ok_iload 86 rfl rfl rfl (ok_iload_n 87 rfl rfl rfl (ok_iload 88 rfl rfl rfl (ok_callSI (M' := M_Mo_behind) (as := [_, _, _]) 89 rfl rfl ml_X12_231 (s_Mo_behind ⟨by omega, by omega, by omega, by omega⟩) ⟨Nat.le_of_ble_eq_true rfl, Nat.le_of_ble_eq_true rfl⟩ rfl (Nat.le_of_ble_eq_true rfl) (fun σ' z2 q3 => ?_))))
                    obtain ⟨hs_, q3⟩ := q3
                    rw [hs_]; clear hs_ σ'
                    refine ok_goto 90 169 rfl rfl rfl (ok_ist9 92 rfl rfl rfl ?_)
                    first | exact inner (by omega) _ _ (tgR_0 h83 h93 h108) (tgC_0 h128 h138 h153) | exact inner (by omega) _ _ (tgR_0 h83 h93 h108) (tgC_1 h128) | exact inner (by omega) _ _ (tgR_0 h83 h93 h108) (tgC_3 h128 h138) | exact inner (by omega) _ _ (tgR_0 h83 h93 h108) (tgC_5 h128 h138 h153 q3) | exact inner (by omega) _ _ (tgR_1 h83) (tgC_0 h128 h138 h153) | exact inner (by omega) _ _ (tgR_1 h83) (tgC_1 h128) | exact inner (by omega) _ _ (tgR_1 h83) (tgC_3 h128 h138) | exact inner (by omega) _ _ (tgR_1 h83) (tgC_5 h128 h138 h153 q3) | exact inner (by omega) _ _ (tgR_2 h83 h93) (tgC_0 h128 h138 h153) | exact inner (by omega) _ _ (tgR_2 h83 h93) (tgC_1 h128) | exact inner (by omega) _ _ (tgR_2 h83 h93) (tgC_3 h128 h138) | exact inner (by omega) _ _ (tgR_2 h83 h93) (tgC_5 h128 h138 h153 q3) | exact inner (by omega) _ _ (tgR_4 h83 h93 h108 q1) (tgC_0 h128 h138 h153) | exact inner (by omega) _ _ (tgR_4 h83 h93 h108 q1) (tgC_1 h128) | exact inner (by omega) _ _ (tgR_4 h83 h93 h108 q1) (tgC_3 h128 h138) | exact inner (by omega) _ _ (tgR_4 h83 h93 h108 q1) (tgC_5 h128 h138 h153 q3)
                · refine ok_iload 77 rfl rfl rfl (ok_iconst 78 rfl rfl (by decide) (ok_isub 79 rfl rfl (by first | omega | (simp [up_if]; omega) | (simp [up_if] at *; omega)) (ok_iload 80 rfl rfl rfl (ok_isub 81 rfl rfl (by first | omega | (simp [up_if]; omega) | (simp [up_if] at *; omega)) (ok_goto 82 169 rfl rfl rfl (ok_ist9 92 rfl rfl rfl ?_))))))
                  first | exact inner (by omega) _ _ (tgR_0 h83 h93 h108) (tgC_0 h128 h138 h153) | exact inner (by omega) _ _ (tgR_0 h83 h93 h108) (tgC_1 h128) | exact inner (by omega) _ _ (tgR_0 h83 h93 h108) (tgC_3 h128 h138) | exact inner (by omega) _ _ (tgR_0 h83 h93 h108) (tgC_5 h128 h138 h153 q3) | exact inner (by omega) _ _ (tgR_1 h83) (tgC_0 h128 h138 h153) | exact inner (by omega) _ _ (tgR_1 h83) (tgC_1 h128) | exact inner (by omega) _ _ (tgR_1 h83) (tgC_3 h128 h138) | exact inner (by omega) _ _ (tgR_1 h83) (tgC_5 h128 h138 h153 q3) | exact inner (by omega) _ _ (tgR_2 h83 h93) (tgC_0 h128 h138 h153) | exact inner (by omega) _ _ (tgR_2 h83 h93) (tgC_1 h128) | exact inner (by omega) _ _ (tgR_2 h83 h93) (tgC_3 h128 h138) | exact inner (by omega) _ _ (tgR_2 h83 h93) (tgC_5 h128 h138 h153 q3) | exact inner (by omega) _ _ (tgR_4 h83 h93 h108 q1) (tgC_0 h128 h138 h153) | exact inner (by omega) _ _ (tgR_4 h83 h93 h108 q1) (tgC_1 h128) | exact inner (by omega) _ _ (tgR_4 h83 h93 h108 q1) (tgC_3 h128 h138) | exact inner (by omega) _ _ (tgR_4 h83 h93 h108 q1) (tgC_5 h128 h138 h153 q3)
              · refine ok_iload 72 rfl rfl rfl (ok_goto 73 169 rfl rfl rfl (ok_ist9 92 rfl rfl rfl ?_))
                first | exact inner (by omega) _ _ (tgR_0 h83 h93 h108) (tgC_0 h128 h138 h153) | exact inner (by omega) _ _ (tgR_0 h83 h93 h108) (tgC_1 h128) | exact inner (by omega) _ _ (tgR_0 h83 h93 h108) (tgC_3 h128 h138) | exact inner (by omega) _ _ (tgR_0 h83 h93 h108) (tgC_5 h128 h138 h153 q3) | exact inner (by omega) _ _ (tgR_1 h83) (tgC_0 h128 h138 h153) | exact inner (by omega) _ _ (tgR_1 h83) (tgC_1 h128) | exact inner (by omega) _ _ (tgR_1 h83) (tgC_3 h128 h138) | exact inner (by omega) _ _ (tgR_1 h83) (tgC_5 h128 h138 h153 q3) | exact inner (by omega) _ _ (tgR_2 h83 h93) (tgC_0 h128 h138 h153) | exact inner (by omega) _ _ (tgR_2 h83 h93) (tgC_1 h128) | exact inner (by omega) _ _ (tgR_2 h83 h93) (tgC_3 h128 h138) | exact inner (by omega) _ _ (tgR_2 h83 h93) (tgC_5 h128 h138 h153 q3) | exact inner (by omega) _ _ (tgR_4 h83 h93 h108 q1) (tgC_0 h128 h138 h153) | exact inner (by omega) _ _ (tgR_4 h83 h93 h108 q1) (tgC_1 h128) | exact inner (by omega) _ _ (tgR_4 h83 h93 h108 q1) (tgC_3 h128 h138) | exact inner (by omega) _ _ (tgR_4 h83 h93 h108 q1) (tgC_5 h128 h138 h153 q3)
          · refine ok_iload 53 rfl rfl rfl (ok_iconst 54 rfl rfl (by decide) (ok_isub 55 rfl rfl (by first | omega | (simp [up_if]; omega) | (simp [up_if] at *; omega)) (ok_iload 56 rfl rfl rfl (ok_isub 57 rfl rfl (by first | omega | (simp [up_if]; omega) | (simp [up_if] at *; omega)) (ok_goto 58 124 rfl rfl rfl (ok_ist8 68 rfl rfl rfl (ok_iload_n 69 rfl rfl rfl (ok_iconst 70 rfl rfl (by decide) (ok_icmp_ne 71 136 rfl rfl rfl (fun h128 => ?_) (fun h128 => ?_))))))))))
            · refine ok_iload_n 74 rfl rfl rfl (ok_iconst 75 rfl rfl (by decide) (ok_icmp_ne 76 151 rfl rfl rfl (fun h138 => ?_) (fun h138 => ?_)))
              · refine ok_iload_n 83 rfl rfl rfl (ok_iconst 84 rfl rfl (by decide) (ok_icmp_ne 85 167 rfl rfl rfl (fun h153 => ?_) (fun h153 => ?_)))
                · refine ok_iload 91 rfl rfl rfl (ok_ist9 92 rfl rfl rfl ?_)
                  first | exact inner (by omega) _ _ (tgR_0 h83 h93 h108) (tgC_0 h128 h138 h153) | exact inner (by omega) _ _ (tgR_0 h83 h93 h108) (tgC_1 h128) | exact inner (by omega) _ _ (tgR_0 h83 h93 h108) (tgC_3 h128 h138) | exact inner (by omega) _ _ (tgR_0 h83 h93 h108) (tgC_5 h128 h138 h153 q3) | exact inner (by omega) _ _ (tgR_1 h83) (tgC_0 h128 h138 h153) | exact inner (by omega) _ _ (tgR_1 h83) (tgC_1 h128) | exact inner (by omega) _ _ (tgR_1 h83) (tgC_3 h128 h138) | exact inner (by omega) _ _ (tgR_1 h83) (tgC_5 h128 h138 h153 q3) | exact inner (by omega) _ _ (tgR_2 h83 h93) (tgC_0 h128 h138 h153) | exact inner (by omega) _ _ (tgR_2 h83 h93) (tgC_1 h128) | exact inner (by omega) _ _ (tgR_2 h83 h93) (tgC_3 h128 h138) | exact inner (by omega) _ _ (tgR_2 h83 h93) (tgC_5 h128 h138 h153 q3) | exact inner (by omega) _ _ (tgR_4 h83 h93 h108 q1) (tgC_0 h128 h138 h153) | exact inner (by omega) _ _ (tgR_4 h83 h93 h108 q1) (tgC_1 h128) | exact inner (by omega) _ _ (tgR_4 h83 h93 h108 q1) (tgC_3 h128 h138) | exact inner (by omega) _ _ (tgR_4 h83 h93 h108 q1) (tgC_5 h128 h138 h153 q3)
                · refine ok_iload 86 rfl rfl rfl (ok_iload_n 87 rfl rfl rfl (ok_iload 88 rfl rfl rfl (ok_callSI (M' := M_Mo_behind) (as := [_, _, _]) 89 rfl rfl ml_X12_231 (s_Mo_behind ⟨by omega, by omega, by omega, by omega⟩) ⟨Nat.le_of_ble_eq_true rfl, Nat.le_of_ble_eq_true rfl⟩ rfl (Nat.le_of_ble_eq_true rfl) (fun σ' z2 q3 => ?_))))
                  obtain ⟨hs_, q3⟩ := q3
                  rw [hs_]; clear hs_ σ'
                  refine ok_goto 90 169 rfl rfl rfl (ok_ist9 92 rfl rfl rfl ?_)
                  first | exact inner (by omega) _ _ (tgR_0 h83 h93 h108) (tgC_0 h128 h138 h153) | exact inner (by omega) _ _ (tgR_0 h83 h93 h108) (tgC_1 h128) | exact inner (by omega) _ _ (tgR_0 h83 h93 h108) (tgC_3 h128 h138) | exact inner (by omega) _ _ (tgR_0 h83 h93 h108) (tgC_5 h128 h138 h153 q3) | exact inner (by omega) _ _ (tgR_1 h83) (tgC_0 h128 h138 h153) | exact inner (by omega) _ _ (tgR_1 h83) (tgC_1 h128) | exact inner (by omega) _ _ (tgR_1 h83) (tgC_3 h128 h138) | exact inner (by omega) _ _ (tgR_1 h83) (tgC_5 h128 h138 h153 q3) | exact inner (by omega) _ _ (tgR_2 h83 h93) (tgC_0 h128 h138 h153) | exact inner (by omega) _ _ (tgR_2 h83 h93) (tgC_1 h128) | exact inner (by omega) _ _ (tgR_2 h83 h93) (tgC_3 h128 h138) | exact inner (by omega) _ _ (tgR_2 h83 h93) (tgC_5 h128 h138 h153 q3) | exact inner (by omega) _ _ (tgR_4 h83 h93 h108 q1) (tgC_0 h128 h138 h153) | exact inner (by omega) _ _ (tgR_4 h83 h93 h108 q1) (tgC_1 h128) | exact inner (by omega) _ _ (tgR_4 h83 h93 h108 q1) (tgC_3 h128 h138) | exact inner (by omega) _ _ (tgR_4 h83 h93 h108 q1) (tgC_5 h128 h138 h153 q3)
              · refine ok_iload 77 rfl rfl rfl (ok_iconst 78 rfl rfl (by decide) (ok_isub 79 rfl rfl (by first | omega | (simp [up_if]; omega) | (simp [up_if] at *; omega)) (ok_iload 80 rfl rfl rfl (ok_isub 81 rfl rfl (by first | omega | (simp [up_if]; omega) | (simp [up_if] at *; omega)) (ok_goto 82 169 rfl rfl rfl (ok_ist9 92 rfl rfl rfl ?_))))))
                first | exact inner (by omega) _ _ (tgR_0 h83 h93 h108) (tgC_0 h128 h138 h153) | exact inner (by omega) _ _ (tgR_0 h83 h93 h108) (tgC_1 h128) | exact inner (by omega) _ _ (tgR_0 h83 h93 h108) (tgC_3 h128 h138) | exact inner (by omega) _ _ (tgR_0 h83 h93 h108) (tgC_5 h128 h138 h153 q3) | exact inner (by omega) _ _ (tgR_1 h83) (tgC_0 h128 h138 h153) | exact inner (by omega) _ _ (tgR_1 h83) (tgC_1 h128) | exact inner (by omega) _ _ (tgR_1 h83) (tgC_3 h128 h138) | exact inner (by omega) _ _ (tgR_1 h83) (tgC_5 h128 h138 h153 q3) | exact inner (by omega) _ _ (tgR_2 h83 h93) (tgC_0 h128 h138 h153) | exact inner (by omega) _ _ (tgR_2 h83 h93) (tgC_1 h128) | exact inner (by omega) _ _ (tgR_2 h83 h93) (tgC_3 h128 h138) | exact inner (by omega) _ _ (tgR_2 h83 h93) (tgC_5 h128 h138 h153 q3) | exact inner (by omega) _ _ (tgR_4 h83 h93 h108 q1) (tgC_0 h128 h138 h153) | exact inner (by omega) _ _ (tgR_4 h83 h93 h108 q1) (tgC_1 h128) | exact inner (by omega) _ _ (tgR_4 h83 h93 h108 q1) (tgC_3 h128 h138) | exact inner (by omega) _ _ (tgR_4 h83 h93 h108 q1) (tgC_5 h128 h138 h153 q3)
            · refine ok_iload 72 rfl rfl rfl (ok_goto 73 169 rfl rfl rfl (ok_ist9 92 rfl rfl rfl ?_))
              first | exact inner (by omega) _ _ (tgR_0 h83 h93 h108) (tgC_0 h128 h138 h153) | exact inner (by omega) _ _ (tgR_0 h83 h93 h108) (tgC_1 h128) | exact inner (by omega) _ _ (tgR_0 h83 h93 h108) (tgC_3 h128 h138) | exact inner (by omega) _ _ (tgR_0 h83 h93 h108) (tgC_5 h128 h138 h153 q3) | exact inner (by omega) _ _ (tgR_1 h83) (tgC_0 h128 h138 h153) | exact inner (by omega) _ _ (tgR_1 h83) (tgC_1 h128) | exact inner (by omega) _ _ (tgR_1 h83) (tgC_3 h128 h138) | exact inner (by omega) _ _ (tgR_1 h83) (tgC_5 h128 h138 h153 q3) | exact inner (by omega) _ _ (tgR_2 h83 h93) (tgC_0 h128 h138 h153) | exact inner (by omega) _ _ (tgR_2 h83 h93) (tgC_1 h128) | exact inner (by omega) _ _ (tgR_2 h83 h93) (tgC_3 h128 h138) | exact inner (by omega) _ _ (tgR_2 h83 h93) (tgC_5 h128 h138 h153 q3) | exact inner (by omega) _ _ (tgR_4 h83 h93 h108 q1) (tgC_0 h128 h138 h153) | exact inner (by omega) _ _ (tgR_4 h83 h93 h108 q1) (tgC_1 h128) | exact inner (by omega) _ _ (tgR_4 h83 h93 h108 q1) (tgC_3 h128 h138) | exact inner (by omega) _ _ (tgR_4 h83 h93 h108 q1) (tgC_5 h128 h138 h153 q3)
        · refine ok_iload 48 rfl rfl rfl (ok_goto 49 124 rfl rfl rfl (ok_ist8 68 rfl rfl rfl (ok_iload_n 69 rfl rfl rfl (ok_iconst 70 rfl rfl (by decide) (ok_icmp_ne 71 136 rfl rfl rfl (fun h128 => ?_) (fun h128 => ?_))))))
          · refine ok_iload_n 74 rfl rfl rfl (ok_iconst 75 rfl rfl (by decide) (ok_icmp_ne 76 151 rfl rfl rfl (fun h138 => ?_) (fun h138 => ?_)))
            · refine ok_iload_n 83 rfl rfl rfl (ok_iconst 84 rfl rfl (by decide) (ok_icmp_ne 85 167 rfl rfl rfl (fun h153 => ?_) (fun h153 => ?_)))
              · refine ok_iload 91 rfl rfl rfl (ok_ist9 92 rfl rfl rfl ?_)
                first | exact inner (by omega) _ _ (tgR_0 h83 h93 h108) (tgC_0 h128 h138 h153) | exact inner (by omega) _ _ (tgR_0 h83 h93 h108) (tgC_1 h128) | exact inner (by omega) _ _ (tgR_0 h83 h93 h108) (tgC_3 h128 h138) | exact inner (by omega) _ _ (tgR_0 h83 h93 h108) (tgC_5 h128 h138 h153 q3) | exact inner (by omega) _ _ (tgR_1 h83) (tgC_0 h128 h138 h153) | exact inner (by omega) _ _ (tgR_1 h83) (tgC_1 h128) | exact inner (by omega) _ _ (tgR_1 h83) (tgC_3 h128 h138) | exact inner (by omega) _ _ (tgR_1 h83) (tgC_5 h128 h138 h153 q3) | exact inner (by omega) _ _ (tgR_2 h83 h93) (tgC_0 h128 h138 h153) | exact inner (by omega) _ _ (tgR_2 h83 h93) (tgC_1 h128) | exact inner (by omega) _ _ (tgR_2 h83 h93) (tgC_3 h128 h138) | exact inner (by omega) _ _ (tgR_2 h83 h93) (tgC_5 h128 h138 h153 q3) | exact inner (by omega) _ _ (tgR_4 h83 h93 h108 q1) (tgC_0 h128 h138 h153) | exact inner (by omega) _ _ (tgR_4 h83 h93 h108 q1) (tgC_1 h128) | exact inner (by omega) _ _ (tgR_4 h83 h93 h108 q1) (tgC_3 h128 h138) | exact inner (by omega) _ _ (tgR_4 h83 h93 h108 q1) (tgC_5 h128 h138 h153 q3)
              · refine ok_iload 86 rfl rfl rfl (ok_iload_n 87 rfl rfl rfl (ok_iload 88 rfl rfl rfl (ok_callSI (M' := M_Mo_behind) (as := [_, _, _]) 89 rfl rfl ml_X12_231 (s_Mo_behind ⟨by omega, by omega, by omega, by omega⟩) ⟨Nat.le_of_ble_eq_true rfl, Nat.le_of_ble_eq_true rfl⟩ rfl (Nat.le_of_ble_eq_true rfl) (fun σ' z2 q3 => ?_))))
                obtain ⟨hs_, q3⟩ := q3
                rw [hs_]; clear hs_ σ'
                refine ok_goto 90 169 rfl rfl rfl (ok_ist9 92 rfl rfl rfl ?_)
                first | exact inner (by omega) _ _ (tgR_0 h83 h93 h108) (tgC_0 h128 h138 h153) | exact inner (by omega) _ _ (tgR_0 h83 h93 h108) (tgC_1 h128) | exact inner (by omega) _ _ (tgR_0 h83 h93 h108) (tgC_3 h128 h138) | exact inner (by omega) _ _ (tgR_0 h83 h93 h108) (tgC_5 h128 h138 h153 q3) | exact inner (by omega) _ _ (tgR_1 h83) (tgC_0 h128 h138 h153) | exact inner (by omega) _ _ (tgR_1 h83) (tgC_1 h128) | exact inner (by omega) _ _ (tgR_1 h83) (tgC_3 h128 h138) | exact inner (by omega) _ _ (tgR_1 h83) (tgC_5 h128 h138 h153 q3) | exact inner (by omega) _ _ (tgR_2 h83 h93) (tgC_0 h128 h138 h153) | exact inner (by omega) _ _ (tgR_2 h83 h93) (tgC_1 h128) | exact inner (by omega) _ _ (tgR_2 h83 h93) (tgC_3 h128 h138) | exact inner (by omega) _ _ (tgR_2 h83 h93) (tgC_5 h128 h138 h153 q3) | exact inner (by omega) _ _ (tgR_4 h83 h93 h108 q1) (tgC_0 h128 h138 h153) | exact inner (by omega) _ _ (tgR_4 h83 h93 h108 q1) (tgC_1 h128) | exact inner (by omega) _ _ (tgR_4 h83 h93 h108 q1) (tgC_3 h128 h138) | exact inner (by omega) _ _ (tgR_4 h83 h93 h108 q1) (tgC_5 h128 h138 h153 q3)
            · refine ok_iload 77 rfl rfl rfl (ok_iconst 78 rfl rfl (by decide) (ok_isub 79 rfl rfl (by first | omega | (simp [up_if]; omega) | (simp [up_if] at *; omega)) (ok_iload 80 rfl rfl rfl (ok_isub 81 rfl rfl (by first | omega | (simp [up_if]; omega) | (simp [up_if] at *; omega)) (ok_goto 82 169 rfl rfl rfl (ok_ist9 92 rfl rfl rfl ?_))))))
              first | exact inner (by omega) _ _ (tgR_0 h83 h93 h108) (tgC_0 h128 h138 h153) | exact inner (by omega) _ _ (tgR_0 h83 h93 h108) (tgC_1 h128) | exact inner (by omega) _ _ (tgR_0 h83 h93 h108) (tgC_3 h128 h138) | exact inner (by omega) _ _ (tgR_0 h83 h93 h108) (tgC_5 h128 h138 h153 q3) | exact inner (by omega) _ _ (tgR_1 h83) (tgC_0 h128 h138 h153) | exact inner (by omega) _ _ (tgR_1 h83) (tgC_1 h128) | exact inner (by omega) _ _ (tgR_1 h83) (tgC_3 h128 h138) | exact inner (by omega) _ _ (tgR_1 h83) (tgC_5 h128 h138 h153 q3) | exact inner (by omega) _ _ (tgR_2 h83 h93) (tgC_0 h128 h138 h153) | exact inner (by omega) _ _ (tgR_2 h83 h93) (tgC_1 h128) | exact inner (by omega) _ _ (tgR_2 h83 h93) (tgC_3 h128 h138) | exact inner (by omega) _ _ (tgR_2 h83 h93) (tgC_5 h128 h138 h153 q3) | exact inner (by omega) _ _ (tgR_4 h83 h93 h108 q1) (tgC_0 h128 h138 h153) | exact inner (by omega) _ _ (tgR_4 h83 h93 h108 q1) (tgC_1 h128) | exact inner (by omega) _ _ (tgR_4 h83 h93 h108 q1) (tgC_3 h128 h138) | exact inner (by omega) _ _ (tgR_4 h83 h93 h108 q1) (tgC_5 h128 h138 h153 q3)
          · refine ok_iload 72 rfl rfl rfl (ok_goto 73 169 rfl rfl rfl (ok_ist9 92 rfl rfl rfl ?_))
            first | exact inner (by omega) _ _ (tgR_0 h83 h93 h108) (tgC_0 h128 h138 h153) | exact inner (by omega) _ _ (tgR_0 h83 h93 h108) (tgC_1 h128) | exact inner (by omega) _ _ (tgR_0 h83 h93 h108) (tgC_3 h128 h138) | exact inner (by omega) _ _ (tgR_0 h83 h93 h108) (tgC_5 h128 h138 h153 q3) | exact inner (by omega) _ _ (tgR_1 h83) (tgC_0 h128 h138 h153) | exact inner (by omega) _ _ (tgR_1 h83) (tgC_1 h128) | exact inner (by omega) _ _ (tgR_1 h83) (tgC_3 h128 h138) | exact inner (by omega) _ _ (tgR_1 h83) (tgC_5 h128 h138 h153 q3) | exact inner (by omega) _ _ (tgR_2 h83 h93) (tgC_0 h128 h138 h153) | exact inner (by omega) _ _ (tgR_2 h83 h93) (tgC_1 h128) | exact inner (by omega) _ _ (tgR_2 h83 h93) (tgC_3 h128 h138) | exact inner (by omega) _ _ (tgR_2 h83 h93) (tgC_5 h128 h138 h153 q3) | exact inner (by omega) _ _ (tgR_4 h83 h93 h108 q1) (tgC_0 h128 h138 h153) | exact inner (by omega) _ _ (tgR_4 h83 h93 h108 q1) (tgC_1 h128) | exact inner (by omega) _ _ (tgR_4 h83 h93 h108 q1) (tgC_3 h128 h138) | exact inner (by omega) _ _ (tgR_4 h83 h93 h108 q1) (tgC_5 h128 h138 h153 q3)
  have no : ¬ okU (σ 1 s) s w r t → ∃ z : Int, some (vi 0) = some (vi z) ∧ QM σ σ z ∧ XuB σ s w r t σ z := fun h2 => ⟨0, rfl, ⟨fr.rf, hB, Or.inl rfl⟩, Or.inl ⟨rfl, tbK_rf _, h2⟩⟩
  refine ok_aload_n 0 rfl rfl rfl (ok_iload_n 1 rfl rfl rfl (ok_callVI (M' := M_Mo_isTable) (as := [_]) 2 rfl rfl ml_X12_111 (s_Mo_isTable_r) rfl rfl (Nat.le_of_ble_eq_true rfl) ⟨Nat.le_of_ble_eq_true rfl, Nat.le_of_ble_eq_true rfl⟩ rfl (Nat.le_of_ble_eq_true rfl) (fun σ' z1 a1 => ?_)))
  obtain ⟨hs_, a1⟩ := a1
  rw [hs_]; clear hs_ σ'
  refine ok_if_eq 3 51 rfl rfl rfl (fun h5 => ?_) (fun h5 => ?_)
  · refine ok_iconst 28 rfl rfl (by decide) (ok_zret 29 rfl rfl rfl (by first | omega | (simp [up_if]; omega) | (simp [up_if] at *; omega)) ?_)
    exact no (fun q => no1 a1 h5 ⟨q.1.1, q.1.2.1, by have := (hB.1 s q.1.1 q.1.2.1).1; have := q.1.2.2; omega⟩)
  · have hs : tabB σ s := yes1 a1 h5
    obtain ⟨s1, s2, s3⟩ := id hs
    obtain ⟨g1, g2, g3⟩ := hB.1 s s1 s2
    refine ok_iload 4 rfl rfl rfl (ok_callSI (M' := M_Mo_isSlot) (as := [_]) 5 rfl rfl ml_X12_103 (s_Mo_isSlot_r) ⟨Nat.le_of_ble_eq_true rfl, Nat.le_of_ble_eq_true rfl⟩ rfl (Nat.le_of_ble_eq_true rfl) (fun σ' z2 a2 => ?_))
    obtain ⟨hs_, a2⟩ := a2
    rw [hs_]; clear hs_ σ'
    refine ok_if_eq 6 51 rfl rfl rfl (fun h13 => ?_) (fun h13 => ?_)
    · refine ok_iconst 28 rfl rfl (by decide) (ok_zret 29 rfl rfl rfl (by first | omega | (simp [up_if]; omega) | (simp [up_if] at *; omega)) ?_)
      exact no (fun q => no1 a2 h13 q.2.1)
    · refine ok_iload_n 7 rfl rfl rfl (ok_i2l 8 rfl rfl (ok_lconst (w := 0) 9 rfl rfl rfl (by decide) (ok_ldc2 10 (5) rfl rfl kc_X12_229 (by decide) (ok_callSI (M' := M_Mo_isIn) (as := [_, _, _]) 11 rfl rfl ml_X12_99 (s_Mo_isIn_r) ⟨Nat.le_of_ble_eq_true rfl, Nat.le_of_ble_eq_true rfl⟩ rfl (Nat.le_of_ble_eq_true rfl) (fun σ' z3 a3 => ?_)))))
      obtain ⟨hs_, a3⟩ := a3
      rw [hs_]; clear hs_ σ'
      refine ok_if_eq 12 51 rfl rfl rfl (fun h25 => ?_) (fun h25 => ?_)
      · refine ok_iconst 28 rfl rfl (by decide) (ok_zret 29 rfl rfl rfl (by first | omega | (simp [up_if]; omega) | (simp [up_if] at *; omega)) ?_)
        exact no (fun q => no1 a3 h25 q.2.2.1)
      · refine ok_iload_n 13 rfl rfl rfl (ok_iconst 14 rfl rfl (by decide) (ok_icmp_le 15 53 rfl rfl rfl (fun h30 => ?_) (fun h30 => ?_)))
        · have t2 := yes1 a2 h13
          have t3 := yes1 a3 h25
          first | exact main hs t2 t3 (fun q => by omega) | exact main hs t2 t3 (fun _ => by have := yes1 a4 h48; omega)
        · refine ok_iload_n 16 rfl rfl rfl (ok_i2l 17 rfl rfl (ok_lconst (w := 0) 18 rfl rfl rfl (by decide) (ok_aload_n 19 rfl rfl rfl (ok_getR 20 rfl rfl fl_X12_7 rfl rfl (ok_iload_n 21 rfl rfl rfl (ok_iald 22 rfl rfl rfl (by first | omega | (simp [up_if]; omega) | (simp [up_if] at *; omega)) (ok_iconst 23 rfl rfl (by decide) (ok_isub 24 rfl rfl (by first | omega | (simp [up_if]; omega) | (simp [up_if] at *; omega)) (ok_i2l 25 rfl rfl (ok_callSI (M' := M_Mo_isIn) (as := [_, _, _]) 26 rfl rfl ml_X12_99 (s_Mo_isIn_r) ⟨Nat.le_of_ble_eq_true rfl, Nat.le_of_ble_eq_true rfl⟩ rfl (Nat.le_of_ble_eq_true rfl) (fun σ' z4 a4 => ?_)))))))))))
          obtain ⟨hs_, a4⟩ := a4
          rw [hs_]; clear hs_ σ'
          refine ok_if_ne 27 53 rfl rfl rfl (fun h48 => ?_) (fun h48 => ?_)
          · have t2 := yes1 a2 h13
            have t3 := yes1 a3 h25
            first | exact main hs t2 t3 (fun q => by omega) | exact main hs t2 t3 (fun _ => by have := yes1 a4 h48; omega)
          · refine ok_iconst 28 rfl rfl (by decide) (ok_zret 29 rfl rfl rfl (by first | omega | (simp [up_if]; omega) | (simp [up_if] at *; omega)) ?_)
            exact no (fun q => no1 a4 h48 (by have := q.2.2.2 (by omega); omega))
end
section
/-! JOINS: bits of one long; sets of columns and rows as numbers below 256 -/
def jb (J r q : Int) : Bool := lb J (r * 8 + q).toNat
theorem lb_bit {p : Int} (hp : 0 ≤ p ∧ p < 64) {k : Nat} (hk : k < 64) : lb (lshl 1 p) k = decide ((k : Int) = p) := by
  obtain ⟨m, hm⟩ : ∃ m : Nat, p = (m : Int) := ⟨p.toNat, by omega⟩
  rw [hm, lb_shl 1 (by omega) hk, lb_1 ⟨k - m, by omega⟩]
  by_cases q : k = m
  · subst q; simp
  · by_cases w : m ≤ k
    · rw [decide_eq_true w, decide_eq_false (by dsimp only; omega), decide_eq_false (by omega)]; rfl
    · rw [decide_eq_false w, Bool.false_and, decide_eq_false (by omega)]
theorem jb_set {v i j x y : Int} (hi : 0 ≤ i ∧ i < 8) (hj : 0 ≤ j ∧ j < 8) (hx : 0 ≤ x ∧ x < 8) (hy : 0 ≤ y ∧ y < 8) : jb (lor v (lshl 1 (i * 8 + j))) x y = (jb v x y || decide (x = i ∧ y = j)) := by
  unfold jb
  rw [lb_or, lb_bit ⟨by omega, by omega⟩ (by omega)]
  congr 1
  by_cases q : x = i ∧ y = j
  · rw [decide_eq_true q, decide_eq_true (by omega)]
  · rw [decide_eq_false q, decide_eq_false (by omega)]
theorem jb_0 (x y : Int) : jb 0 x y = false := lb_0 _
theorem jb_ext {a b : Int} (ha : rl a) (hb : rl b) (h : ∀ x y : Int, 0 ≤ x → x < 8 → 0 ≤ y → y < 8 → jb a x y = jb b x y) : a = b := by
  refine lb_ext ha hb (fun i hi => ?_)
  have := h ((i / 8 : Nat) : Int) ((i % 8 : Nat) : Int) (by omega) (by omega) (by omega) (by omega)
  unfold jb at this
  rw [show (((i / 8 : Nat) : Int) * 8 + ((i % 8 : Nat) : Int)).toNat = i by omega] at this
  exact this
/-- small numbers by their bits -/
theorem ib_bt {z : Int} (h : 0 ≤ z ∧ z < 256) {i : Nat} (hi : i < 32) : ib z i = z.toNat.testBit i := by
  show (BitVec.ofInt 32 z).getLsbD i = _
  rw [← BitVec.testBit_toNat, BitVec.toNat_ofInt]
  have : (z % ((2 ^ 32 : Nat) : Int)).toNat = z.toNat := by omega
  rw [this]
theorem sm_bits {z : Int} (hz : rg z) (h : ∀ i, 8 ≤ i → i < 32 → ib z i = false) : 0 ≤ z ∧ z < 256 := by
  have h0 := nn_of_31 hz (h 31 (by decide) (by decide))
  refine ⟨h0, ?_⟩
  have e : (BitVec.ofInt 32 z).toNat = z.toNat := by
    rw [BitVec.toNat_ofInt]
    omega
  have l : (BitVec.ofInt 32 z).toNat < 2 ^ 8 := by
    refine Nat.lt_pow_two_of_testBit _ (fun i hi => ?_)
    by_cases q : i < 32
    · have := h i hi q
      unfold ib at this
      rw [← BitVec.testBit_toNat] at this
      exact this
    · rw [BitVec.testBit_toNat]
      exact BitVec.getLsbD_of_ge _ _ (by omega)
  rw [e] at l
  omega
theorem bt_ib {z : Int} (h : 0 ≤ z ∧ z < 256) {c : Int} (hc : 0 ≤ c ∧ c < 8) : bt z c = ib z c.toNat := by
  rw [ib_bt h (by omega)]; rfl
theorem bt_ext {a b : Int} (ha : 0 ≤ a ∧ a < 256) (hb : 0 ≤ b ∧ b < 256) (h : ∀ c : Int, 0 ≤ c → c < 8 → bt a c = bt b c) : a = b := by
  have : a.toNat = b.toNat := by
    refine Nat.eq_of_testBit_eq (fun i => ?_)
    by_cases q : i < 8
    · exact h i (by omega) (by omega)
    · rw [Nat.testBit_lt_two_pow (Nat.lt_of_lt_of_le (by omega : a.toNat < 2 ^ 8) (Nat.pow_le_pow_right (by decide) (by omega))), Nat.testBit_lt_two_pow (Nat.lt_of_lt_of_le (by omega : b.toNat < 2 ^ 8) (Nat.pow_le_pow_right (by decide) (by omega)))]
  omega
theorem rowJ_sp {J r : Int} (hr : 0 ≤ r ∧ r < 8) : (0 ≤ rowJ J r ∧ rowJ J r < 256) ∧ ∀ c : Int, 0 ≤ c → c < 8 → bt (rowJ J r) c = jb J r c := by
  have e : wr (r * 8) = (((r * 8).toNat : Nat) : Int) := by rw [wr_id ⟨by omega, by omega⟩]; omega
  have bits : ∀ i, i < 32 → ib (rowJ J r) i = (lb J ((r * 8).toNat + i) && decide (i < 8)) := fun i hi => by
    unfold rowJ
    rw [ib_wr _ hi, lb_and, e, lb_ushr _ (by omega), lb_255 ⟨i, by omega⟩]
  have hb : 0 ≤ rowJ J r ∧ rowJ J r < 256 := sm_bits (rg_wr _) (fun i a b => by rw [bits i b, decide_eq_false (by omega), Bool.and_false])
  refine ⟨hb, fun c c0 c1 => ?_⟩
  rw [bt_ib hb ⟨c0, c1⟩, bits _ (by omega), decide_eq_true (by omega), Bool.and_true]
  unfold jb
  congr 1
  omega
theorem ior_sp {a b : Int} (ha : 0 ≤ a ∧ a < 256) (hb : 0 ≤ b ∧ b < 256) : (0 ≤ ior a b ∧ ior a b < 256) ∧ ∀ c : Int, 0 ≤ c → c < 8 → bt (ior a b) c = (bt a c || bt b c) := by
  have bits : ∀ i, i < 32 → ib (ior a b) i = (a.toNat.testBit i || b.toNat.testBit i) := fun i hi => by rw [ib_or, ib_bt ha hi, ib_bt hb hi]
  have hz : 0 ≤ ior a b ∧ ior a b < 256 := sm_bits (rg_ior _ _) (fun i p q => by
    rw [bits i q, Nat.testBit_lt_two_pow (Nat.lt_of_lt_of_le (by omega : a.toNat < 2 ^ 8) (Nat.pow_le_pow_right (by decide) p)), Nat.testBit_lt_two_pow (Nat.lt_of_lt_of_le (by omega : b.toNat < 2 ^ 8) (Nat.pow_le_pow_right (by decide) p))]
    rfl)
  exact ⟨hz, fun c c0 c1 => by rw [bt_ib hz ⟨c0, c1⟩, bits _ (by omega)]; rfl⟩
theorem ib_m1 : ∀ i : Fin 32, ib (-1) i.val = true := by decide +kernel
/-- what is open, without what is used -/
theorem opn_sp {a b : Int} (ha : 0 ≤ a ∧ a < 256) (hb : 0 ≤ b ∧ b < 256) : (0 ≤ iand a (ixor b (-1)) ∧ iand a (ixor b (-1)) < 256) ∧ ∀ c : Int, 0 ≤ c → c < 8 → bt (iand a (ixor b (-1))) c = (bt a c && !(bt b c)) := by
  have bits : ∀ i, i < 32 → ib (iand a (ixor b (-1))) i = (a.toNat.testBit i && !(b.toNat.testBit i)) := fun i hi => by
    rw [ib_and, ib_xor, ib_bt ha hi, ib_bt hb hi, ib_m1 ⟨i, hi⟩, Bool.xor_true]
  have hz : 0 ≤ iand a (ixor b (-1)) ∧ iand a (ixor b (-1)) < 256 := sm_bits (rg_iand _ _) (fun i p q => by
    rw [bits i q, Nat.testBit_lt_two_pow (Nat.lt_of_lt_of_le (by omega : a.toNat < 2 ^ 8) (Nat.pow_le_pow_right (by decide) p))]
    rfl)
  exact ⟨hz, fun c c0 c1 => by rw [bt_ib hz ⟨c0, c1⟩, bits _ (by omega)]; rfl⟩
theorem iand_sp {a b : Int} (ha : 0 ≤ a ∧ a < 256) (hb : 0 ≤ b ∧ b < 256) : (0 ≤ iand a b ∧ iand a b < 256) ∧ ∀ c : Int, 0 ≤ c → c < 8 → bt (iand a b) c = (bt a c && bt b c) := by
  have bits : ∀ i, i < 32 → ib (iand a b) i = (a.toNat.testBit i && b.toNat.testBit i) := fun i hi => by
    rw [ib_and, ib_bt ha hi, ib_bt hb hi]
  have hz : 0 ≤ iand a b ∧ iand a b < 256 := sm_bits (rg_iand _ _) (fun i p q => by
    rw [bits i q, Nat.testBit_lt_two_pow (Nat.lt_of_lt_of_le (by omega : a.toNat < 2 ^ 8) (Nat.pow_le_pow_right (by decide) p))]
    rfl)
  exact ⟨hz, fun c c0 c1 => by rw [bt_ib hz ⟨c0, c1⟩, bits _ (by omega)]; rfl⟩
theorem b_nz {s j : Int} (h1 : 0 ≤ s ∧ s < 256) (h2 : 0 ≤ j ∧ j < 8) : (iand (ishr s j) 1 ≠ 0 ↔ bt s j = true) ∧ (iand (ishr s j) 1 = 0 ↔ bt s j = false) := by
  rw [bitG h1 h2]
  cases bt s j <;> simp
/-- a table's joins, exactly -/
def jOf (J n : Int) (op : Int → Int → Prop) : Prop := rl J ∧ ∀ x y : Int, 0 ≤ x → x < 8 → 0 ≤ y → y < 8 → (jb J x y = true ↔ (x < n ∧ y < n ∧ op x y))
theorem t_Jo_of {σ : eS} {c : Nat} {n m : Int} (hs : nth shA c = some (1, 64, [])) (hn : 0 ≤ n ∧ n ≤ 8) : MtL shA M_Jo_of [vr c, vi n, vi m] σ (fun σ' z => σ' = σ ∧ jOf z n (fun i j => m ≤ σ c (i * 8 + j))) := by
  refine Mt.of okM_Jo_of (Nat.le_of_ble_eq_true rfl) (fun hk hg => ?_)
  refine ok_lconst (w := 0) 0 rfl rfl rfl (by decide) (ok_lst3 1 rfl rfl rfl (ok_iconst 2 rfl rfl (by decide) (ok_ist5 3 rfl rfl rfl ?_)))
  refine lpO2 (fun v i : Int => [some (vr c), some (vi n), some (vi m), some (vl v), none, some (vi i), none, none]) (fun _ _ => σ) (fun v i => 0 ≤ i ∧ i ≤ n ∧ rl v ∧ ∀ x y : Int, 0 ≤ x → x < 8 → 0 ≤ y → y < 8 → (jb v x y = true ↔ (x < i ∧ y < n ∧ m ≤ σ c (x * 8 + y)))) (fun _ i => (8 - i).toNat) ?_ 0 0 ⟨by omega, by omega, ⟨by omega, by omega⟩, fun x y a b d e => by rw [jb_0]; constructor; intro q; cases q; intro q; omega⟩
  rintro v i ⟨i1, i2, v1, v2⟩ ih
  refine ok_iload 4 rfl rfl rfl (ok_iload_n 5 rfl rfl rfl (ok_icmp_ge 6 57 rfl rfl rfl (fun h8 => ?_) (fun h8 => ?_)))
  · refine ok_lload_n 33 rfl rfl rfl (ok_lret 34 rfl rfl rfl ?_)
    exact ⟨_, rfl, rfl, v1, fun x y a b d e => by rw [v2 x y a b d e, show i = n by omega]⟩
  · refine ok_iconst 7 rfl rfl (by decide) (ok_ist6 8 rfl rfl rfl ?_)
    refine lpO2 (fun v j : Int => [some (vr c), some (vi n), some (vi m), some (vl v), none, some (vi i), some (vi j), none]) (fun _ _ => σ) (fun v j => 0 ≤ j ∧ j ≤ n ∧ rl v ∧ ∀ x y : Int, 0 ≤ x → x < 8 → 0 ≤ y → y < 8 → (jb v x y = true ↔ ((x < i ∨ (x = i ∧ y < j)) ∧ y < n ∧ m ≤ σ c (x * 8 + y)))) (fun _ j => (8 - j).toNat) ?_ v 0 ⟨by omega, by omega, v1, fun x y a b d e => by rw [v2 x y a b d e]; exact ⟨fun q => ⟨Or.inl q.1, q.2⟩, fun q => ⟨by omega, q.2⟩⟩⟩
    have il : i < n := by omega
    clear v1 v2 v
    rintro v j ⟨j1, j2, v1, v2⟩ ih2
    refine ok_iload 9 rfl rfl rfl (ok_iload_n 10 rfl rfl rfl (ok_icmp_ge 11 51 rfl rfl rfl (fun h17 => ?_) (fun h17 => ?_)))
    · refine ok_inc5 31 rfl rfl rfl (by first | omega | (simp [up_if]; omega) | (simp [up_if] at *; omega)) (ok_goto 32 5 rfl rfl rfl ?_)
      exact ok_fg [some (vr c), some (vi n), some (vi m), some (vl _), none, some (vi (i + 1)), none, none] ⟨rfl, rfl, rfl, rfl, rfl, trivial⟩ (ih _ (i + 1) ⟨by omega, by omega, v1, fun x y a b d e => by rw [v2 x y a b d e]; exact ⟨fun q => ⟨by omega, q.2⟩, fun q => ⟨by omega, q.2⟩⟩⟩ (by omega))
    · refine ok_iload 12 rfl rfl rfl (ok_bipush 13 rfl rfl (by decide) (by decide) (ok_imul 14 rfl rfl (by first | omega | (simp [up_if]; omega) | (simp [up_if] at *; omega)) (ok_iload 15 rfl rfl rfl (ok_iadd 16 rfl rfl (by first | omega | (simp [up_if]; omega) | (simp [up_if] at *; omega)) (ok_ist7 17 rfl rfl rfl (ok_aload_n 18 rfl rfl rfl (ok_iload 19 rfl rfl rfl (ok_iald 20 rfl rfl hs (by first | omega | (simp [up_if]; omega) | (simp [up_if] at *; omega)) (ok_iload_n 21 rfl rfl rfl (ok_icmp_lt 22 45 rfl rfl rfl (fun h35 => ?_) (fun h35 => ?_)))))))))))
      · refine ok_inc6 29 rfl rfl rfl (by first | omega | (simp [up_if]; omega) | (simp [up_if] at *; omega)) (ok_goto 30 14 rfl rfl rfl ?_)
        refine ok_fg [some (vr c), some (vi n), some (vi m), some (vl _), none, some (vi i), some (vi (j + 1)), none] ⟨rfl, rfl, rfl, rfl, rfl, rfl, trivial⟩ (ih2 _ (j + 1) ⟨by omega, by omega, by first | exact rl_lor _ _ | exact v1, fun x y a b d e => ?_⟩ (by omega))
        first
          | (rw [jb_set ⟨i1, by omega⟩ ⟨j1, by omega⟩ ⟨a, b⟩ ⟨d, e⟩, Bool.or_eq_true, v2 x y a b d e, decide_eq_true_eq]
             constructor
             · rintro (q | q)
               · exact ⟨by omega, q.2⟩
               · rw [q.1, q.2]; exact ⟨by omega, by omega, by omega⟩
             · rintro ⟨q1, q2⟩
               by_cases w : x = i ∧ y = j
               · exact Or.inr w
               · exact Or.inl ⟨by omega, q2⟩)
          | (rw [v2 x y a b d e]
             constructor
             · rintro ⟨q1, q2⟩
               exact ⟨by omega, q2⟩
             · rintro ⟨q1, q2, q3⟩
               by_cases w : x = i ∧ y = j
               · rw [w.1, w.2] at q3; omega
               · exact ⟨by omega, q2, q3⟩)
      · refine ok_lload_n 23 rfl rfl rfl (ok_lconst (w := 1) 24 rfl rfl rfl (by decide) (ok_iload 25 rfl rfl rfl (ok_lshl 26 rfl rfl (ok_lor 27 rfl rfl (ok_lst3 28 rfl rfl rfl (ok_inc6 29 rfl rfl rfl (by first | omega | (simp [up_if]; omega) | (simp [up_if] at *; omega)) (ok_goto 30 14 rfl rfl rfl ?_)))))))
        refine ok_fg [some (vr c), some (vi n), some (vi m), some (vl _), none, some (vi i), some (vi (j + 1)), none] ⟨rfl, rfl, rfl, rfl, rfl, rfl, trivial⟩ (ih2 _ (j + 1) ⟨by omega, by omega, by first | exact rl_lor _ _ | exact v1, fun x y a b d e => ?_⟩ (by omega))
        first
          | (rw [jb_set ⟨i1, by omega⟩ ⟨j1, by omega⟩ ⟨a, b⟩ ⟨d, e⟩, Bool.or_eq_true, v2 x y a b d e, decide_eq_true_eq]
             constructor
             · rintro (q | q)
               · exact ⟨by omega, q.2⟩
               · rw [q.1, q.2]; exact ⟨by omega, by omega, by omega⟩
             · rintro ⟨q1, q2⟩
               by_cases w : x = i ∧ y = j
               · exact Or.inr w
               · exact Or.inl ⟨by omega, q2⟩)
          | (rw [v2 x y a b d e]
             constructor
             · rintro ⟨q1, q2⟩
               exact ⟨by omega, q2⟩
             · rintro ⟨q1, q2, q3⟩
               by_cases w : x = i ∧ y = j
               · rw [w.1, w.2] at q3; omega
               · exact ⟨by omega, q2, q3⟩)
theorem t_Ta_joinedBy {σ : eS} {t : Nat} {m : Int} (ht : tA t) (hT : iT σ t) : MtL shA M_Ta_joinedBy [vr t, vi m] σ (fun σ' z => σ' = σ ∧ jOf z (σ t 1) (fun i j => m ≤ cT σ t i j)) := by
  refine Mt.of okM_Ta_joinedBy (Nat.le_of_ble_eq_true rfl) (fun hk hg => ?_)
  refine ok_aload_n 0 rfl rfl rfl (ok_getR 1 rfl rfl fl_X9_9 (sT ht) rfl (ok_aload_n 2 rfl rfl rfl (ok_getI 3 rfl rfl fl_X9_15 (sT ht) rfl (Or.inl rfl) (ok_iload_n 4 rfl rfl rfl (ok_callSL (M' := M_Jo_of) (as := [_, _, _]) 5 rfl rfl ml_X9_56 (t_Jo_of (sC ht) ⟨hT.1, hT.2.1⟩) ⟨Nat.le_of_ble_eq_true rfl, Nat.le_of_ble_eq_true rfl⟩ rfl (Nat.le_of_ble_eq_true rfl) (fun σ' z hz => ?_))))))
  obtain ⟨hs_, hz⟩ := hz
  rw [hs_]; clear hs_ σ'
  refine ok_lret 6 rfl rfl rfl ?_
  exact ⟨_, rfl, rfl, hz⟩
/-- the columns that some rows are joined with -/
def cOf (J n s z : Int) : Prop := (0 ≤ z ∧ z < 256) ∧ ∀ c : Int, 0 ≤ c → c < 8 → (bt z c = true ↔ ∃ r, 0 ≤ r ∧ r < n ∧ bt s r = true ∧ jb J r c = true)
theorem t_Jo_columnsOf {σ : eS} {J s n : Int} (hn : 0 ≤ n ∧ n ≤ 8) (hs : 0 ≤ s ∧ s < 256) : MtI shA M_Jo_columnsOf [vl J, vi s, vi n] σ (fun σ' z => σ' = σ ∧ cOf J n s z) := by
  refine Mt.of okM_Jo_columnsOf (Nat.le_of_ble_eq_true rfl) (fun hk hg => ?_)
  refine ok_iconst 0 rfl rfl (by decide) (ok_ist4 1 rfl rfl rfl (ok_iconst 2 rfl rfl (by decide) (ok_ist5 3 rfl rfl rfl ?_)))
  refine lpO2 (fun v j : Int => [some (vl J), none, some (vi s), some (vi n), some (vi v), some (vi j)]) (fun _ _ => σ) (fun v j => 0 ≤ j ∧ j ≤ n ∧ cOf J j s v) (fun _ j => (8 - j).toNat) ?_ 0 0 ⟨by omega, by omega, ⟨by omega, by omega⟩, fun c a b => by rw [bt_0]; constructor; intro q; cases q; rintro ⟨r, q1, q2, -⟩; omega⟩
  rintro v j ⟨j1, j2, v1, v2⟩ ih
  refine ok_iload 4 rfl rfl rfl (ok_iload_n 5 rfl rfl rfl (ok_icmp_ge 6 38 rfl rfl rfl (fun h9 => ?_) (fun h9 => ?_)))
  · refine ok_iload 21 rfl rfl rfl (ok_iret 22 rfl rfl rfl ?_)
    exact ⟨_, rfl, rfl, by rw [show n = j by omega]; exact ⟨v1, v2⟩⟩
  · have bz := b_nz (s := s) (j := j) hs ⟨by omega, by omega⟩
    have rj := rowJ_sp (J := J) (r := j) ⟨by omega, by omega⟩
    have os := ior_sp (b := rowJ J j) v1 rj.1
    refine ok_iload_n 7 rfl rfl rfl (ok_iload 8 rfl rfl rfl (ok_ishr 9 rfl rfl (ok_iconst 10 rfl rfl (by decide) (ok_iand 11 rfl rfl (ok_if_eq 12 32 rfl rfl rfl (fun h18 => ?_) (fun h18 => ?_))))))
    · refine ok_inc5 19 rfl rfl rfl (by first | omega | (simp [up_if]; omega) | (simp [up_if] at *; omega)) (ok_goto 20 6 rfl rfl rfl ?_)
      refine ih _ (j + 1) ⟨by omega, by omega, ?_⟩ (by omega)
      first
        | (refine ⟨os.1, fun c a b => ?_⟩
           rw [os.2 c a b, Bool.or_eq_true, v2 c a b, rj.2 c a b]
           constructor
           · rintro (⟨r, q1, q2, q3⟩ | q)
             · exact ⟨r, q1, by omega, q3⟩
             · exact ⟨j, j1, by omega, bz.1.mp (by omega), q⟩
           · rintro ⟨r, q1, q2, q3, q4⟩
             rcases (by omega : r < j ∨ r = j) with w | w
             · exact Or.inl ⟨r, q1, w, q3, q4⟩
             · rw [w] at q4; exact Or.inr q4)
        | (have hb : bt s j = false := bz.2.mp (by omega)
           refine ⟨v1, fun c a b => ?_⟩
           rw [v2 c a b]
           constructor
           · rintro ⟨r, q1, q2, q3⟩
             exact ⟨r, q1, by omega, q3⟩
           · rintro ⟨r, q1, q2, q3, q4⟩
             rcases (by omega : r < j ∨ r = j) with w | w
             · exact ⟨r, q1, w, q3, q4⟩
             · rw [w, hb] at q3; cases q3)
    · refine ok_iload 13 rfl rfl rfl (ok_lload_n 14 rfl rfl rfl (ok_iload 15 rfl rfl rfl (ok_callSI (M' := M_Jo_rowOf) (as := [_, _]) 16 rfl rfl ml_X1_17 (s_Jo_rowOf) ⟨Nat.le_of_ble_eq_true rfl, Nat.le_of_ble_eq_true rfl⟩ rfl (Nat.le_of_ble_eq_true rfl) (fun σ' z hz => ?_))))
      rw [hz.1, hz.2]
      clear hz z σ'
      refine ok_ior 17 rfl rfl (ok_ist4 18 rfl rfl rfl (ok_inc5 19 rfl rfl rfl (by first | omega | (simp [up_if]; omega) | (simp [up_if] at *; omega)) (ok_goto 20 6 rfl rfl rfl ?_)))
      refine ih _ (j + 1) ⟨by omega, by omega, ?_⟩ (by omega)
      first
        | (refine ⟨os.1, fun c a b => ?_⟩
           rw [os.2 c a b, Bool.or_eq_true, v2 c a b, rj.2 c a b]
           constructor
           · rintro (⟨r, q1, q2, q3⟩ | q)
             · exact ⟨r, q1, by omega, q3⟩
             · exact ⟨j, j1, by omega, bz.1.mp (by omega), q⟩
           · rintro ⟨r, q1, q2, q3, q4⟩
             rcases (by omega : r < j ∨ r = j) with w | w
             · exact Or.inl ⟨r, q1, w, q3, q4⟩
             · rw [w] at q4; exact Or.inr q4)
        | (have hb : bt s j = false := bz.2.mp (by omega)
           refine ⟨v1, fun c a b => ?_⟩
           rw [v2 c a b]
           constructor
           · rintro ⟨r, q1, q2, q3⟩
             exact ⟨r, q1, by omega, q3⟩
           · rintro ⟨r, q1, q2, q3, q4⟩
             rcases (by omega : r < j ∨ r = j) with w | w
             · exact ⟨r, q1, w, q3, q4⟩
             · rw [w, hb] at q3; cases q3)
end
