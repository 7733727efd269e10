section
/-! ROUNDING, the class: lows met, cells lessened, the whole -/
abbrev rgMl : Nat → Int → Prop := fun c _ => c = 41 ∨ c = 44 ∨ c = 45
def LHs (n b : Int) (R : Int → Int → Int) (σ : eS) : Prop := ∀ v w, 0 ≤ v → v < 18 → 0 ≤ w → w < 18 → lF σ v w = LOf n b R v w ∧ hF σ v w = HIf n b R v w
theorem t_Ro_meetLows {σ : eS} {n b : Int} {R : Int → Int → Int} (hn : 1 ≤ n ∧ n ≤ 8) (hb : 1 ≤ b) (hR : ∀ i j, 0 ≤ i → i < n → 0 ≤ j → j < n → 0 ≤ R i j ∧ R i j < b) (hL : LHs n b R σ) (hK : rngK (xF σ) (lF σ) (hF σ)) : MtV shA M_Ro_meetLows [vr 40, vi n] σ (fun σ' => fr rgMl σ σ' ∧ rngK (xF σ') (lF σ) (hF σ) ∧ ∀ v w, 0 ≤ v → v < 18 → 0 ≤ w → w < 18 → lF σ v w ≤ xF σ' v w) := by
  refine Mt.of okM_Ro_meetLows (Nat.le_of_ble_eq_true rfl) (fun hk hg => ?_)
  have n0 : 0 ≤ n ∧ n ≤ 8 := ⟨by omega, hn.2⟩
  have bd := LH_bd n0 hb hR
  have one : ∀ (ρ : eS) (a c : Int), fr rgMl σ ρ → rngK (xF ρ) (lF σ) (hF σ) → 0 ≤ a ∧ a < 18 → 0 ≤ c ∧ c < 18 → a ≠ c → HIf n b R c a = 0 → MtV shA M_Ro_meetLow [vr 40, vi a, vi c] ρ (fun σ' => fr rgMl σ σ' ∧ rngK (xF σ') (lF σ) (hF σ) ∧ (∀ v w, 0 ≤ v → v < 18 → 0 ≤ w → w < 18 → min (xF ρ v w) (lF σ v w) ≤ xF σ' v w) ∧ lF σ a c ≤ xF σ' a c) := fun ρ a c f k ha hc hac h0 => by
    have el : lF ρ = lF σ := by funext v w; exact f 42 _ (by simp [rgMl])
    have eh : hF ρ = hF σ := by funext v w; exact f 43 _ (by simp [rgMl])
    refine (t_Ro_meetLow (c := b) (Y := rgZ n R) ha hc hac hb (by rw [el, eh]; exact k) (rgZ_cir n0) (fun v w v1 v2 w1 w2 => by rw [el, eh, (hL v w v1 v2 w1 w2).1, (hL v w v1 v2 w1 w2).2]; exact ⟨(bd v w).1, (bd v w).2.1⟩) (fun v w v1 v2 w1 w2 => by rw [el, eh, (hL v w v1 v2 w1 w2).1, (hL v w v1 v2 w1 w2).2]; exact (bd v w).2.2.1) (by rw [el, (hL a c ha.1 ha.2 hc.1 hc.2).1]; exact (bd a c).2.2.2.2.1) (by rw [eh, (hL c a hc.1 hc.2 ha.1 ha.2).2]; exact h0)).weaken (fun σ' v q => ?_)
    obtain ⟨e, q1, q2, q3, q4⟩ := q
    rw [el, eh] at q2
    rw [el] at q3 q4
    exact ⟨e, f.tr (q1.mono (fun c k w => w)), q2, q3, q4⟩
  have z0 : ∀ i, 0 ≤ i → i < n → HIf n b R (1 + i) 0 = 0 := fun i a c => by unfold HIf riF; rw [if_neg (by omega), if_neg (by omega), if_neg (by omega), if_neg (by omega)]
  have z1 : ∀ j, 0 ≤ j → j < n → HIf n b R 17 (9 + j) = 0 := fun j a c => by unfold HIf riF; rw [if_neg (by omega), if_neg (by omega), if_neg (by omega), if_neg (by omega)]
  have z2 : HIf n b R 0 17 = 0 := by unfold HIf riF; rw [if_neg (by omega), if_neg (by omega), if_neg (by omega), if_neg (by omega)]
  refine ok_iconst 0 rfl rfl (by decide) (ok_ist2 1 rfl rfl rfl ?_)
  refine lpO2 (fun (i : Int) (_ : eS) => [some (vr 40), some (vi n), some (vi i)]) (fun _ ρ => ρ) (fun i ρ => 0 ≤ i ∧ i ≤ n ∧ fr rgMl σ ρ ∧ rngK (xF ρ) (lF σ) (hF σ) ∧ ∀ k, 0 ≤ k → k < i → lF σ 0 (1 + k) ≤ xF ρ 0 (1 + k)) (fun i _ => (8 - i).toNat) ?_ 0 σ ⟨by omega, by omega, fr.rf, hK, fun k a c => by omega⟩
  rintro i ρ ⟨i1, i2, f, k, m⟩ ih
  refine ok_iload_n 2 rfl rfl rfl (ok_iload_n 3 rfl rfl rfl (ok_icmp_ge 4 21 rfl rfl rfl (fun h4 => ?_) (fun h4 => ?_)))
  · refine ok_iconst 13 rfl rfl (by decide) (ok_ist2 14 rfl rfl rfl ?_)
    refine lpO2 (fun (i : Int) (_ : eS) => [some (vr 40), some (vi n), some (vi i)]) (fun _ ρ => ρ) (fun i ρ => 0 ≤ i ∧ i ≤ n ∧ fr rgMl σ ρ ∧ rngK (xF ρ) (lF σ) (hF σ) ∧ (∀ k, 0 ≤ k → k < n → lF σ 0 (1 + k) ≤ xF ρ 0 (1 + k)) ∧ ∀ k, 0 ≤ k → k < i → lF σ (9 + k) 17 ≤ xF ρ (9 + k) 17) (fun i _ => (8 - i).toNat) ?_ 0 ρ ⟨by omega, by omega, f, k, fun x a c => m x a (by omega), fun x a c => by omega⟩
    clear f k m ih i1 i2 h4 ρ i
    rintro i ρ ⟨i1, i2, f, k, m, m2⟩ ih
    refine ok_iload_n 15 rfl rfl rfl (ok_iload_n 16 rfl rfl rfl (ok_icmp_ge 17 44 rfl rfl rfl (fun h25 => ?_) (fun h25 => ?_)))
    · refine ok_aload_n 26 rfl rfl rfl (ok_bipush 27 rfl rfl (by decide) (by decide) (ok_iconst 28 rfl rfl (by decide) (ok_callVV (M' := M_Ro_meetLow) (as := [_, _]) 29 rfl rfl ml_X6_69 (one ρ 17 0 f k ⟨by omega, by omega⟩ ⟨by omega, by omega⟩ (by omega) z2) rfl rfl (Nat.le_of_ble_eq_true rfl) ⟨Nat.le_of_ble_eq_true rfl, Nat.le_of_ble_eq_true rfl⟩ rfl (Nat.le_of_ble_eq_true rfl) (fun τ g => ?_))))
      refine ok_vret 30 rfl rfl rfl ?_
      refine ⟨rfl, g.1, g.2.1, fun v w v1 v2 w1 w2 => ?_⟩
      have x0 := (g.2.1.2 v w v1 v2 w1 w2).1
      have q1 := g.2.2.1 v w v1 v2 w1 w2
      by_cases c0 : v = 0 ∧ 1 ≤ w ∧ w < 1 + n
      · have q2 := m (w - 1) (by omega) (by omega)
        rw [show 1 + (w - 1) = w by omega, ← c0.1] at q2
        omega
      · by_cases c2 : (9 ≤ v ∧ v < 9 + n) ∧ w = 17
        · have q2 := m2 (v - 9) (by omega) (by omega)
          rw [show 9 + (v - 9) = v by omega, ← c2.2] at q2
          omega
        · by_cases c3 : v = 17 ∧ w = 0
          · have q2 := g.2.2.2
            rw [← c3.2, ← c3.1] at q2
            rw [c3.1, c3.2] at q2 ⊢
            exact q2
          · have e := (hL v w v1 v2 w1 w2).1
            have e2 : LOf n b R v w = 0 := by
              unfold LOf riF
              rw [if_neg c0]
              by_cases c1 : (1 ≤ v ∧ v < 1 + n) ∧ 9 ≤ w ∧ w < 9 + n
              · rw [if_pos c1]
                have r := hR (v - 1) (w - 9) (by omega) (by omega) (by omega) (by omega)
                exact Int.ediv_eq_zero_of_lt r.1 r.2
              · rw [if_neg c1, if_neg c2, if_neg c3]
            omega
    · refine ok_aload_n 18 rfl rfl rfl (ok_bipush 19 rfl rfl (by decide) (by decide) (ok_iload_n 20 rfl rfl rfl (ok_iadd 21 rfl rfl (by first | omega | (simp [up_if]; omega) | (simp [up_if] at *; omega)) (ok_bipush 22 rfl rfl (by decide) (by decide) (ok_callVV (M' := M_Ro_meetLow) (as := [_, _]) 23 rfl rfl ml_X6_69 (one ρ (9 + i) 17 f k ⟨by omega, by omega⟩ ⟨by omega, by omega⟩ (by omega) (z1 i i1 (by omega))) rfl rfl (Nat.le_of_ble_eq_true rfl) ⟨Nat.le_of_ble_eq_true rfl, Nat.le_of_ble_eq_true rfl⟩ rfl (Nat.le_of_ble_eq_true rfl) (fun τ g => ?_))))))
      refine ok_inc2 24 rfl rfl rfl (by first | omega | (simp [up_if]; omega) | (simp [up_if] at *; omega)) (ok_goto 25 23 rfl rfl rfl ?_)
      refine ih (i + 1) τ ⟨by omega, by omega, g.1, g.2.1, fun x a c => ?_, fun x a c => ?_⟩ (by omega)
      · have q1 := g.2.2.1 0 (1 + x) (by omega) (by omega) (by omega) (by omega)
        have q2 := m x a c
        omega
      · by_cases q : x = i
        · rw [q]; exact g.2.2.2
        · have q1 := g.2.2.1 (9 + x) 17 (by omega) (by omega) (by omega) (by omega)
          have q2 := m2 x a (by omega)
          omega
  · refine ok_aload_n 5 rfl rfl rfl (ok_iconst 6 rfl rfl (by decide) (ok_iconst 7 rfl rfl (by decide) (ok_iload_n 8 rfl rfl rfl (ok_iadd 9 rfl rfl (by first | omega | (simp [up_if]; omega) | (simp [up_if] at *; omega)) (ok_callVV (M' := M_Ro_meetLow) (as := [_, _]) 10 rfl rfl ml_X6_69 (one ρ 0 (1 + i) f k ⟨by omega, by omega⟩ ⟨by omega, by omega⟩ (by omega) (z0 i i1 (by omega))) rfl rfl (Nat.le_of_ble_eq_true rfl) ⟨Nat.le_of_ble_eq_true rfl, Nat.le_of_ble_eq_true rfl⟩ rfl (Nat.le_of_ble_eq_true rfl) (fun τ g => ?_))))))
    refine ok_inc2 11 rfl rfl rfl (by first | omega | (simp [up_if]; omega) | (simp [up_if] at *; omega)) (ok_goto 12 2 rfl rfl rfl ?_)
    refine ih (i + 1) τ ⟨by omega, by omega, g.1, g.2.1, fun x a c => ?_⟩ (by omega)
    by_cases q : x = i
    · rw [q]; exact g.2.2.2
    · have q1 := g.2.2.1 0 (1 + x) (by omega) (by omega) (by omega) (by omega)
      have q2 := m x a (by omega)
      omega
/-- lessening, up to the place k -/
def lsP (n b : Int) (R x l h : Int → Int → Int) (k : Int) : Prop := cirN x ∧ (∀ p q, 0 ≤ p → p < 18 → 0 ≤ q → q < 18 → LOf n b R p q ≤ l p q ∧ l p q ≤ x p q ∧ x p q ≤ h p q ∧ h p q ≤ HIf n b R p q) ∧ (∀ p q, 0 ≤ p → p < 18 → 0 ≤ q → q < 18 → (l p q = LOf n b R p q ∧ h p q = HIf n b R p q) ∨ ∃ i j, (0 ≤ i ∧ i < n) ∧ (0 ≤ j ∧ j < n) ∧ n * i + j < k ∧ p = 1 + i ∧ q = 9 + j) ∧ (∀ i j, 0 ≤ i → i < n → 0 ≤ j → j < n → n * i + j < k → l (1 + i) (9 + j) = x (1 + i) (9 + j) ∧ h (1 + i) (9 + j) = x (1 + i) (9 + j)) ∧ frst n b R (fun i j => x (1 + i) (9 + j)) k
theorem lsP_s {n b i j : Int} {R x l h x' l' h' : Int → Int → Int} (hn : 1 ≤ n ∧ n ≤ 8) (hi : 0 ≤ i ∧ i < n) (hj : 0 ≤ j ∧ j < n) (H : lsP n b R x l h (n * i + j)) (hc : cirN x') (hx : ∀ p q, 0 ≤ p → p < 18 → 0 ≤ q → q < 18 → ¬ (p = 1 + i ∧ q = 9 + j) → l p q ≤ x' p q ∧ x' p q ≤ h p q) (h0 : LOf n b R (1 + i) (9 + j) ≤ x' (1 + i) (9 + j) ∧ x' (1 + i) (9 + j) ≤ HIf n b R (1 + i) (9 + j)) (el : ∀ p q, 0 ≤ p → p < 18 → 0 ≤ q → q < 18 → l' p q = if p = 1 + i ∧ q = 9 + j then x' p q else l p q) (eh : ∀ p q, 0 ≤ p → p < 18 → 0 ≤ q → q < 18 → h' p q = if p = 1 + i ∧ q = 9 + j then x' p q else h p q) (hm : ∀ y, fitR n b R y → (∀ i' j', 0 ≤ i' → i' < n → 0 ≤ j' → j' < n → n * i' + j' < n * i + j → y i' j' = x (1 + i') (9 + j')) → x' (1 + i) (9 + j) ≤ y i j) : lsP n b R x' l' h' (n * i + j + 1) := by
  obtain ⟨-, a2, a3, a4, a5⟩ := H
  have pre : ∀ i' j', 0 ≤ i' → i' < n → 0 ≤ j' → j' < n → n * i' + j' < n * i + j → ¬ (1 + i' = 1 + i ∧ 9 + j' = 9 + j) := fun i' j' b1 b2 b3 b4 b5 c => by
    rw [show i' = i by omega, show j' = j by omega] at b5; omega
  have same : ∀ i' j', 0 ≤ i' → i' < n → 0 ≤ j' → j' < n → n * i' + j' < n * i + j → x' (1 + i') (9 + j') = x (1 + i') (9 + j') := fun i' j' b1 b2 b3 b4 b5 => by
    have c := hx (1 + i') (9 + j') (by omega) (by omega) (by omega) (by omega) (pre i' j' b1 b2 b3 b4 b5)
    have d := a4 i' j' b1 b2 b3 b4 b5
    omega
  have last : ∀ i' j', 0 ≤ i' → i' < n → 0 ≤ j' → j' < n → n * i' + j' < n * i + j + 1 → n * i' + j' < n * i + j ∨ (i' = i ∧ j' = j) := fun i' j' b1 b2 b3 b4 b5 => by
    rcases (by omega : n * i' + j' < n * i + j ∨ n * i' + j' = n * i + j) with q | q
    · exact Or.inl q
    · exact Or.inr (ix_inj hn ⟨b3, b4⟩ hj q)
  refine ⟨hc, fun p q p1 p2 q1 q2 => ?_, fun p q p1 p2 q1 q2 => ?_, fun i' j' b1 b2 b3 b4 b5 => ?_, fun i' j' b1 b2 b3 b4 b5 y y1 y2 => ?_⟩
  · rw [el p q p1 p2 q1 q2, eh p q p1 p2 q1 q2]
    have d := a2 p q p1 p2 q1 q2
    by_cases c : p = 1 + i ∧ q = 9 + j
    · rw [if_pos c, if_pos c, c.1, c.2]; omega
    · rw [if_neg c, if_neg c]
      have e := hx p q p1 p2 q1 q2 c
      omega
  · rw [el p q p1 p2 q1 q2, eh p q p1 p2 q1 q2]
    by_cases c : p = 1 + i ∧ q = 9 + j
    · exact Or.inr ⟨i, j, hi, hj, by omega, c⟩
    · rw [if_neg c, if_neg c]
      rcases a3 p q p1 p2 q1 q2 with d | ⟨i', j', d1, d2, d3, d4⟩
      · exact Or.inl d
      · exact Or.inr ⟨i', j', d1, d2, by omega, d4⟩
  · rw [el _ _ (by omega) (by omega) (by omega) (by omega), eh _ _ (by omega) (by omega) (by omega) (by omega)]
    rcases last i' j' b1 b2 b3 b4 b5 with q | ⟨q1, q2⟩
    · rw [if_neg (pre i' j' b1 b2 b3 b4 q), if_neg (pre i' j' b1 b2 b3 b4 q), same i' j' b1 b2 b3 b4 q]
      exact a4 i' j' b1 b2 b3 b4 q
    · rw [q1, q2, if_pos ⟨rfl, rfl⟩, if_pos ⟨rfl, rfl⟩]; exact ⟨rfl, rfl⟩
  · (try dsimp only)
    rcases last i' j' b1 b2 b3 b4 b5 with q | ⟨q1, q2⟩
    · rw [same i' j' b1 b2 b3 b4 q]
      exact a5 i' j' b1 b2 b3 b4 q y y1 (fun u w c1 c2 c3 c4 c5 => by have := y2 u w c1 c2 c3 c4 c5; (try dsimp only at this); rw [this, same u w c1 c2 c3 c4 (by omega)])
    · subst q1; subst q2
      exact hm y y1 (fun u w c1 c2 c3 c4 c5 => by have := y2 u w c1 c2 c3 c4 c5; (try dsimp only at this); rw [this, same u w c1 c2 c3 c4 c5])
/-- no way: no other way to round has less there -/
theorem lsP_no {n b i j : Int} {R x l h y : Int → Int → Int} (hn : 1 ≤ n ∧ n ≤ 8) (hi : 0 ≤ i ∧ i < n) (hj : 0 ≤ j ∧ j < n) (H : lsP n b R x l h (n * i + j)) (hw : wayN (fun v w => x v w < h v w ∨ l w v < x w v) (1 + i) (9 + j)) (hy : fitR n b R y) (ag0 : ∀ i' j', 0 ≤ i' → i' < n → 0 ≤ j' → j' < n → n * i' + j' < n * i + j → y i' j' = x (1 + i') (9 + j')) : x (1 + i) (9 + j) ≤ y i j := by
  obtain ⟨a1, a2, a3, a4, -⟩ := H
  obtain ⟨S, s1, s2, s3⟩ := hw
  have at1 : ∀ i' j', 0 ≤ i' → i' < n → 0 ≤ j' → j' < n → rgZ n y (1 + i') (9 + j') = y i' j' := fun i' j' c1 c2 c3 c4 => by
    unfold rgZ riF
    rw [if_neg (by omega), if_pos (by omega), show 1 + i' - 1 = i' by omega, show 9 + j' - 9 = j' by omega]
  have bds : ∀ p q, 0 ≤ p → p < 18 → 0 ≤ q → q < 18 → l p q ≤ rgZ n y p q ∧ rgZ n y p q ≤ h p q := fun p q p1 p2 q1 q2 => by
    rcases a3 p q p1 p2 q1 q2 with d | ⟨i', j', d1, d2, d3, d4, d5⟩
    · rw [d.1, d.2]; exact fit_rg hy p q
    · subst d4; subst d5
      have e := a4 i' j' d1.1 d1.2 d2.1 d2.2 d3
      rw [at1 i' j' d1.1 d1.2 d2.1 d2.2, ag0 i' j' d1.1 d1.2 d2.1 d2.2 d3, e.1, e.2]
      exact ⟨Int.le_refl _, Int.le_refl _⟩
  have r := cutN (x := x) (y := rgZ n y) (S := S) a1 (rgZ_cir ⟨by omega, hn.2⟩) (fun v w v1 v2 w1 w2 p q => by
    have n1 := s3 v w v1 v2 w1 w2 p q
    have b1 := (bds v w v1 v2 w1 w2).2
    (try dsimp only at n1)
    omega) (fun v w v1 v2 w1 w2 p q => by
    have n1 := s3 w v w1 w2 v1 v2 q p
    have b1 := (bds v w v1 v2 w1 w2).1
    (try dsimp only at n1)
    omega) (v := 1 + i) (w := 9 + j) ⟨by omega, by omega⟩ ⟨by omega, by omega⟩ (Or.inl ⟨s1, s2⟩)
  rw [at1 i j hi.1 hi.2 hj.1 hj.2] at r
  omega
end
section
/-! ROUNDING, the class: lessen, lay, round -/
theorem LH_mid {n b i j : Int} {R : Int → Int → Int} (hb : 1 ≤ b) (hi : 0 ≤ i ∧ i < n) (hj : 0 ≤ j ∧ j < n) (hR : 0 ≤ R i j ∧ R i j < b) (hn : n ≤ 8) : LOf n b R (1 + i) (9 + j) = 0 ∧ HIf n b R (1 + i) (9 + j) ≤ 1 ∧ LOf n b R (9 + j) (1 + i) = 0 ∧ HIf n b R (9 + j) (1 + i) = 0 ∧ loB' b (R i j) = 0 := by
  have z : loB' b (R i j) = 0 := Int.ediv_eq_zero_of_lt hR.1 hR.2
  have l := lohi hb hR.1
  unfold LOf HIf riF
  rw [if_neg (by omega), if_pos (by omega), if_neg (by omega), if_pos (by omega), if_neg (by omega), if_neg (by omega), if_neg (by omega), if_neg (by omega), if_neg (by omega), if_neg (by omega), if_neg (by omega), if_neg (by omega), show 1 + i - 1 = i by omega, show 9 + j - 9 = j by omega]
  exact ⟨z, by show hiB' b (R i j) ≤ 1; omega, rfl, rfl, z⟩
def bitsR (n : Int) (x : Int → Int → Int) (k v : Int) : Prop := rl v ∧ ∀ a c, 0 ≤ a → a < 8 → 0 ≤ c → c < 8 → (jb v a c = true ↔ (a < n ∧ c < n ∧ n * a + c < k ∧ 1 ≤ x (1 + a) (9 + c)))
theorem t_Ro_lessen {σ : eS} {n b : Int} {R : Int → Int → Int} (hn : 1 ≤ n ∧ n ≤ 8) (hb : 1 ≤ b) (hR : ∀ i j, 0 ≤ i → i < n → 0 ≤ j → j < n → 0 ≤ R i j ∧ R i j < b) (hP : lsP n b R (xF σ) (lF σ) (hF σ) 0) : MtL shA M_Ro_lessen [vr 40, vi n] σ (fun σ' z => fr rgRo σ σ' ∧ ∃ x : Int → Int → Int, fitR n b R x ∧ frst n b R x (n * n) ∧ ∀ i j, 0 ≤ i → i < n → 0 ≤ j → j < n → x i j = if jb z i j = true then 1 else 0) := by
  refine Mt.of okM_Ro_lessen (Nat.le_of_ble_eq_true rfl) (fun hk hg => ?_)
  have n0 : 0 ≤ n ∧ n ≤ 8 := ⟨by omega, hn.2⟩
  have bd := LH_bd n0 hb hR
  refine ok_lconst (w := 0) 0 rfl rfl rfl (by decide) (ok_lst2 1 rfl rfl rfl (ok_iconst 2 rfl rfl (by decide) (ok_ist4 3 rfl rfl rfl ?_)))
  refine lpO3 (fun (v i : Int) (_ : eS) => [some (vr 40), some (vi n), some (vl v), none, some (vi i), none, none]) (fun _ _ ρ => ρ) (fun v i ρ => 0 ≤ i ∧ i ≤ n ∧ fr rgRo σ ρ ∧ lsP n b R (xF ρ) (lF ρ) (hF ρ) (n * i) ∧ bitsR n (xF ρ) (n * i) v) (fun _ i _ => (8 - i).toNat) ?_ 0 0 σ ⟨by omega, by omega, fr.rf, by rw [Int.mul_zero]; exact hP, by rw [Int.mul_zero]; exact ⟨by unfold rl; omega, fun a c a1 a2 c1 c2 => by rw [jb_0]; exact ⟨fun q => (by cases q), fun q => by have := ix8 (n := n) (i := a) (j := c) n0 ⟨a1, q.1⟩ ⟨c1, q.2.1⟩; omega⟩⟩⟩
  rintro v i ρ ⟨i1, i2, f, H, B⟩ ih
  refine ok_iload 4 rfl rfl rfl (ok_iload_n 5 rfl rfl rfl (ok_icmp_ge 6 148 rfl rfl rfl (fun h8 => ?_) (fun h8 => ?_)))
  · refine ok_lload_n 87 rfl rfl rfl (ok_lret 88 rfl rfl rfl ?_)
    have ei : i = n := by omega
    rw [ei] at H B
    have hf := rg_fit (b := b) (R := R) n0 H.1 (fun p q p1 p2 q1 q2 => by have := H.2.1 p q p1 p2 q1 q2; omega)
    refine ⟨_, rfl, f, _, hf.1, H.2.2.2.2, fun a c a1 a2 c1 c2 => ?_⟩
    have g := ix8 (n := n) (i := a) (j := c) n0 ⟨a1, a2⟩ ⟨c1, c2⟩
    have e := B.2 a c a1 (by omega) c1 (by omega)
    have m := LH_mid hb ⟨a1, a2⟩ ⟨c1, c2⟩ (hR a c a1 a2 c1 c2) hn.2
    have q := H.2.1 (1 + a) (9 + c) (by omega) (by omega) (by omega) (by omega)
    (try dsimp only)
    by_cases w : jb v a c = true
    · rw [if_pos w]
      have := (e.mp w).2.2.2
      omega
    · rw [if_neg w]
      have : ¬ 1 ≤ xF ρ (1 + a) (9 + c) := fun u => w (e.mpr ⟨a2, c2, by omega, u⟩)
      omega
  · refine ok_iconst 7 rfl rfl (by decide) (ok_ist5 8 rfl rfl rfl ?_)
    have il : i < n := by omega
    refine lpO3 (fun (v j : Int) (_ : eS) => [some (vr 40), some (vi n), some (vl v), none, some (vi i), some (vi j), none]) (fun _ _ ρ => ρ) (fun v j ρ => 0 ≤ j ∧ j ≤ n ∧ fr rgRo σ ρ ∧ lsP n b R (xF ρ) (lF ρ) (hF ρ) (n * i + j) ∧ bitsR n (xF ρ) (n * i + j) v) (fun _ j _ => (8 - j).toNat) ?_ v 0 ρ ⟨by omega, by omega, f, by rw [Int.add_zero]; exact H, by rw [Int.add_zero]; exact B⟩
    clear f H B ρ v
    rintro v j ρ ⟨j1, j2, f, H, B⟩ ih2
    have ch : (1 + i) * 18 + 9 + j = (1 + i) * 18 + (9 + j) := by omega
    have t2 : ∀ ρ' : eS, fr rgRo σ ρ' → j < n → lF ρ' = lF ρ → hF ρ' = hF ρ → cirN (xF ρ') → (∀ p q, 0 ≤ p → p < 18 → 0 ≤ q → q < 18 → ¬ (p = 1 + i ∧ q = 9 + j) → lF ρ p q ≤ xF ρ' p q ∧ xF ρ' p q ≤ hF ρ p q) → (LOf n b R (1 + i) (9 + j) ≤ xF ρ' (1 + i) (9 + j) ∧ xF ρ' (1 + i) (9 + j) ≤ HIf n b R (1 + i) (9 + j)) → (∀ y, fitR n b R y → (∀ i' j', 0 ≤ i' → i' < n → 0 ≤ j' → j' < n → n * i' + j' < n * i + j → y i' j' = xF ρ (1 + i') (9 + j')) → xF ρ' (1 + i) (9 + j) ≤ y i j) → Ok shA M_Ro_lessen 85 [some (vr 40), some (vi n), some (vl v), none, some (vi i), some (vi j), some (vi ((1 + i) * 18 + (9 + j)))] [] ρ' (fun σ' v => ∃ z, v = some (vl z) ∧ fr rgRo σ σ' ∧ ∃ x : Int → Int → Int, fitR n b R x ∧ frst n b R x (n * n) ∧ ∀ i j, 0 ≤ i → i < n → 0 ≤ j → j < n → x i j = if jb z i j = true then 1 else 0) := by
      intro ρ' f' jl el eh hc hx h0 hm
      obtain ⟨ρ2, e2⟩ : ∃ ρ2, ρ2 = up (up ρ' 42 ((1 + i) * 18 + (9 + j)) (ρ' 41 ((1 + i) * 18 + (9 + j)))) 43 ((1 + i) * 18 + (9 + j)) (ρ' 41 ((1 + i) * 18 + (9 + j))) := ⟨_, rfl⟩
      have x2 : xF ρ2 = xF ρ' := by rw [e2]; funext p q; unfold xF; rw [up_ne _ _ _ _ (by decide), up_ne _ _ _ _ (by decide)]
      have lh2 : ∀ p q, 0 ≤ q → q < 18 → lF ρ2 p q = (if p = 1 + i ∧ q = 9 + j then xF ρ' p q else lF ρ p q) ∧ hF ρ2 p q = if p = 1 + i ∧ q = 9 + j then xF ρ' p q else hF ρ p q := fun p q q1 q2 => by
        have := lF_up (ρ := ρ') (p := 1 + i) (q := 9 + j) (y := ρ' 41 ((1 + i) * 18 + (9 + j))) (z := ρ' 41 ((1 + i) * 18 + (9 + j))) (v := p) (w := q) ⟨by omega, by omega⟩ ⟨q1, q2⟩
        rw [← e2, el, eh] at this
        by_cases c : p = 1 + i ∧ q = 9 + j
        · rw [if_pos c, if_pos c] at this ⊢
          rw [this.1, this.2, c.1, c.2]; exact ⟨rfl, rfl⟩
        · rw [if_neg c, if_neg c] at this ⊢
          exact this
      have H2 : lsP n b R (xF ρ2) (lF ρ2) (hF ρ2) (n * i + j + 1) := by
        rw [x2]
        exact lsP_s hn ⟨i1, il⟩ ⟨j1, jl⟩ H hc hx h0 (fun p q _ _ q1 q2 => (lh2 p q q1 q2).1) (fun p q _ _ q1 q2 => (lh2 p q q1 q2).2) hm
      have same : ∀ a c, 0 ≤ a → a < n → 0 ≤ c → c < n → n * a + c < n * i + j → xF ρ' (1 + a) (9 + c) = xF ρ (1 + a) (9 + c) := fun a c a1 a2 c1 c2 q => by
        have d := hx (1 + a) (9 + c) (by omega) (by omega) (by omega) (by omega) (fun u => by rw [show a = i by omega, show c = j by omega] at q; omega)
        have e := H.2.2.2.1 a c a1 a2 c1 c2 q
        omega
      have old : ∀ a c, 0 ≤ a → a < 8 → 0 ≤ c → c < 8 → (jb v a c = true ↔ (a < n ∧ c < n ∧ n * a + c < n * i + j ∧ 1 ≤ xF ρ' (1 + a) (9 + c))) := fun a c a1 a2 c1 c2 => by
        rw [B.2 a c a1 a2 c1 c2]
        constructor
        · rintro ⟨p, q, r, u⟩; exact ⟨p, q, r, by rw [same a c a1 p c1 q r]; exact u⟩
        · rintro ⟨p, q, r, u⟩; exact ⟨p, q, r, by rw [← same a c a1 p c1 q r]; exact u⟩
      have lst : ∀ a c, 0 ≤ a → a < n → 0 ≤ c → c < n → n * a + c < n * i + j + 1 → n * a + c < n * i + j ∨ (a = i ∧ c = j) := fun a c a1 a2 c1 c2 q => by
        rcases (by omega : n * a + c < n * i + j ∨ n * a + c = n * i + j) with u | u
        · exact Or.inl u
        · exact Or.inr (ix_inj hn ⟨c1, c2⟩ ⟨j1, jl⟩ u)
      have F2 : fr rgRo σ ρ2 := by rw [e2]; exact fr_up (fr_up f' (by simp [rgRo])) (by simp [rgRo])
      have xr : ρ2 41 ((1 + i) * 18 + (9 + j)) = xF ρ' (1 + i) (9 + j) := by rw [← x2]; rfl
      refine ok_aload_n 52 rfl rfl rfl (ok_getR 53 rfl rfl fl_X6_15 rfl rfl (ok_iload 54 rfl rfl rfl (ok_aload_n 55 rfl rfl rfl (ok_getR 56 rfl rfl fl_X6_11 rfl rfl (ok_iload 57 rfl rfl rfl (ok_iald 58 rfl rfl rfl (by first | omega | (simp [up_if]; omega) | (simp [up_if] at *; omega)) (ok_iast 59 rfl rfl rfl (by first | omega | (simp [up_if]; omega) | (simp [up_if] at *; omega)) (ok_aload_n 60 rfl rfl rfl (ok_getR 61 rfl rfl fl_X6_18 rfl rfl (ok_iload 62 rfl rfl rfl (ok_aload_n 63 rfl rfl rfl (ok_getR 64 rfl rfl fl_X6_11 rfl rfl (ok_iload 65 rfl rfl rfl (ok_iald 66 rfl rfl rfl (by first | omega | (simp [up_if]; omega) | (simp [up_if] at *; omega)) (ok_iast 67 rfl rfl rfl (by first | omega | (simp [up_if]; omega) | (simp [up_if] at *; omega)) ?_)))))))))))))))
      rw [up_ne _ _ _ _ (show (41 : Nat) ≠ 42 by decide), ← e2]
      refine ok_aload_n 68 rfl rfl rfl (ok_getR 69 rfl rfl fl_X6_11 rfl rfl (ok_iload 70 rfl rfl rfl (ok_iald 71 rfl rfl rfl (by first | omega | (simp [up_if]; omega) | (simp [up_if] at *; omega)) (ok_if_le 72 136 rfl rfl rfl (fun h120 => ?_) (fun h120 => ?_)))))
      · refine ok_inc5 83 rfl rfl rfl (by first | omega | (simp [up_if]; omega) | (simp [up_if] at *; omega)) (ok_goto 84 14 rfl rfl rfl ?_)
        refine ok_fg [some (vr 40), some (vi n), some (vl _), none, some (vi i), some (vi (j + 1)), none] ⟨rfl, rfl, rfl, rfl, rfl, trivial⟩ (ih2 _ (j + 1) ρ2 ⟨by omega, by omega, F2, by rw [← Int.add_assoc]; exact H2, by first | exact rl_lor _ _ | exact B.1, fun a c a1 a2 c1 c2 => ?_⟩ (by omega))
        rw [← Int.add_assoc, x2]
        first
          | (rw [jb_set ⟨i1, by omega⟩ ⟨j1, by omega⟩ ⟨a1, a2⟩ ⟨c1, c2⟩, Bool.or_eq_true, old a c a1 a2 c1 c2, decide_eq_true_eq]
             constructor
             · rintro (⟨p, q, r, u⟩ | ⟨p, q⟩)
               · exact ⟨p, q, by omega, u⟩
               · subst p; subst q; exact ⟨il, jl, by omega, by omega⟩
             · rintro ⟨p, q, r, u⟩
               rcases lst a c a1 p c1 q r with w | w
               · exact Or.inl ⟨p, q, w, u⟩
               · exact Or.inr w)
          | (rw [old a c a1 a2 c1 c2]
             constructor
             · rintro ⟨p, q, r, u⟩; exact ⟨p, q, by omega, u⟩
             · rintro ⟨p, q, r, u⟩
               rcases lst a c a1 p c1 q r with w | w
               · exact ⟨p, q, w, u⟩
               · rw [w.1, w.2] at u; omega)
      · refine ok_lload_n 73 rfl rfl rfl (ok_lconst (w := 1) 74 rfl rfl rfl (by decide) (ok_iload 75 rfl rfl rfl (ok_bipush 76 rfl rfl (by decide) (by decide) (ok_imul 77 rfl rfl (by first | omega | (simp [up_if]; omega) | (simp [up_if] at *; omega)) (ok_iload 78 rfl rfl rfl (ok_iadd 79 rfl rfl (by first | omega | (simp [up_if]; omega) | (simp [up_if] at *; omega)) (ok_lshl 80 rfl rfl (ok_lor 81 rfl rfl (ok_lst2 82 rfl rfl rfl (ok_inc5 83 rfl rfl rfl (by first | omega | (simp [up_if]; omega) | (simp [up_if] at *; omega)) (ok_goto 84 14 rfl rfl rfl ?_)))))))))))
        refine ok_fg [some (vr 40), some (vi n), some (vl _), none, some (vi i), some (vi (j + 1)), none] ⟨rfl, rfl, rfl, rfl, rfl, trivial⟩ (ih2 _ (j + 1) ρ2 ⟨by omega, by omega, F2, by rw [← Int.add_assoc]; exact H2, by first | exact rl_lor _ _ | exact B.1, fun a c a1 a2 c1 c2 => ?_⟩ (by omega))
        rw [← Int.add_assoc, x2]
        first
          | (rw [jb_set ⟨i1, by omega⟩ ⟨j1, by omega⟩ ⟨a1, a2⟩ ⟨c1, c2⟩, Bool.or_eq_true, old a c a1 a2 c1 c2, decide_eq_true_eq]
             constructor
             · rintro (⟨p, q, r, u⟩ | ⟨p, q⟩)
               · exact ⟨p, q, by omega, u⟩
               · subst p; subst q; exact ⟨il, jl, by omega, by omega⟩
             · rintro ⟨p, q, r, u⟩
               rcases lst a c a1 p c1 q r with w | w
               · exact Or.inl ⟨p, q, w, u⟩
               · exact Or.inr w)
          | (rw [old a c a1 a2 c1 c2]
             constructor
             · rintro ⟨p, q, r, u⟩; exact ⟨p, q, by omega, u⟩
             · rintro ⟨p, q, r, u⟩
               rcases lst a c a1 p c1 q r with w | w
               · exact ⟨p, q, w, u⟩
               · rw [w.1, w.2] at u; omega)
    have xr : ρ 41 ((1 + i) * 18 + (9 + j)) = xF ρ (1 + i) (9 + j) := rfl
    refine ok_iload 9 rfl rfl rfl (ok_iload_n 10 rfl rfl rfl (ok_icmp_ge 11 142 rfl rfl rfl (fun h17 => ?_) (fun h17 => ?_)))
    · refine ok_inc4 85 rfl rfl rfl (by first | omega | (simp [up_if]; omega) | (simp [up_if] at *; omega)) (ok_goto 86 5 rfl rfl rfl ?_)
      exact ok_fg [some (vr 40), some (vi n), some (vl _), none, some (vi (i + 1)), none, none] ⟨rfl, rfl, rfl, rfl, trivial⟩ (ih _ (i + 1) ρ ⟨by omega, by omega, f, by rw [show n * (i + 1) = n * i + j by rw [Int.mul_add, Int.mul_one]; omega]; exact H, by rw [show n * (i + 1) = n * i + j by rw [Int.mul_add, Int.mul_one]; omega]; exact B⟩ (by omega))
    · have mid := LH_mid hb ⟨i1, il⟩ ⟨j1, by omega⟩ (hR i j i1 il j1 (by omega)) hn.2
      have q0 := H.2.1 (1 + i) (9 + j) (by omega) (by omega) (by omega) (by omega)
      have q9 := H.2.1 (9 + j) (1 + i) (by omega) (by omega) (by omega) (by omega)
      have lo0 : ∀ y, fitR n b R y → 0 ≤ y i j := fun y hy => by have := (hy.1 i j i1 il j1 (by omega)).1; omega
      refine ok_iconst 12 rfl rfl (by decide) (ok_iload 13 rfl rfl rfl (ok_iadd 14 rfl rfl (by first | omega | (simp [up_if]; omega) | (simp [up_if] at *; omega)) (ok_bipush 15 rfl rfl (by decide) (by decide) (ok_imul 16 rfl rfl (by first | omega | (simp [up_if]; omega) | (simp [up_if] at *; omega)) (ok_bipush 17 rfl rfl (by decide) (by decide) (ok_iadd 18 rfl rfl (by first | omega | (simp [up_if]; omega) | (simp [up_if] at *; omega)) (ok_iload 19 rfl rfl rfl (ok_iadd 20 rfl rfl (by first | omega | (simp [up_if]; omega) | (simp [up_if] at *; omega)) ?_))))))))
      rw [ch]
      refine ok_ist6 21 rfl rfl rfl (ok_aload_n 22 rfl rfl rfl (ok_getR 23 rfl rfl fl_X6_11 rfl rfl (ok_iload 24 rfl rfl rfl (ok_iald 25 rfl rfl rfl (by first | omega | (simp [up_if]; omega) | (simp [up_if] at *; omega)) (ok_if_le 26 85 rfl rfl rfl (fun h42 => ?_) (fun h42 => ?_))))))
      · exact t2 ρ f (by omega) rfl rfl H.1 (fun p q p1 p2 q1 q2 _ => by have := H.2.1 p q p1 p2 q1 q2; omega) ⟨by omega, by omega⟩ (fun y hy _ => by have := lo0 y hy; omega)
      · refine ok_aload_n 27 rfl rfl rfl (ok_iconst 28 rfl rfl (by decide) (ok_iload 29 rfl rfl rfl (ok_iadd 30 rfl rfl (by first | omega | (simp [up_if]; omega) | (simp [up_if] at *; omega)) (ok_bipush 31 rfl rfl (by decide) (by decide) (ok_iload 32 rfl rfl rfl (ok_iadd 33 rfl rfl (by first | omega | (simp [up_if]; omega) | (simp [up_if] at *; omega)) (ok_callVI (M' := M_Ro_findWay) (as := [_, _]) 34 rfl rfl ml_X6_73 (t_Ro_findWay (a := 1 + i) (b := 9 + j) ⟨by omega, by omega⟩ ⟨by omega, by omega⟩ (by omega)) rfl rfl (Nat.le_of_ble_eq_true rfl) ⟨Nat.le_of_ble_eq_true rfl, Nat.le_of_ble_eq_true rfl⟩ rfl (Nat.le_of_ble_eq_true rfl) (fun τ z g => ?_))))))))
        obtain ⟨g1, g2⟩ := g
        have tx : xF τ = xF ρ := by funext v w; exact g1 41 _ (by simp [rgBf])
        have tl : lF τ = lF ρ := by funext v w; exact g1 42 _ (by simp [rgBf])
        have th : hF τ = hF ρ := by funext v w; exact g1 43 _ (by simp [rgBf])
        have top : opF τ = opF ρ := by funext v w; exact propext (opF_cg g1 v w)
        have G1 : fr rgRo σ τ := f.tr (g1.mono (fun c k w => by simp only [rgBf, rgRo] at w ⊢; omega))
        refine ok_if_eq 35 85 rfl rfl rfl (fun h58 => ?_) (fun h58 => ?_)
        · have gn : wayN (opF ρ) (1 + i) (9 + j) := by
            rcases g2 with q | q
            · omega
            · exact q.2
          exact t2 τ G1 (by omega) tl th (by rw [tx]; exact H.1) (fun p q p1 p2 q1 q2 _ => by have := H.2.1 p q p1 p2 q1 q2; rw [tx]; omega) (by rw [tx]; omega) (fun y hy ag0 => by rw [tx]; exact lsP_no hn ⟨i1, il⟩ ⟨j1, by omega⟩ H gn hy ag0)
        · have gy : wayY τ (opF ρ) (1 + i) (9 + j) := by
            rcases g2 with q | q
            · exact q.2
            · omega
          have nop : ¬ opF ρ (1 + i) (9 + j) := by unfold opF; omega
          have fb : FB (xF τ) (lF τ) (hF τ) := fun p q p1 p2 q1 q2 => by
            rw [tx, tl, th]
            have c := H.2.1 p q p1 p2 q1 q2
            have d := bd p q
            omega
          refine ok_aload_n 36 rfl rfl rfl (ok_iconst 37 rfl rfl (by decide) (ok_iload 38 rfl rfl rfl (ok_iadd 39 rfl rfl (by first | omega | (simp [up_if]; omega) | (simp [up_if] at *; omega)) (ok_bipush 40 rfl rfl (by decide) (by decide) (ok_iload 41 rfl rfl rfl (ok_iadd 42 rfl rfl (by first | omega | (simp [up_if]; omega) | (simp [up_if] at *; omega)) (ok_callVV (M' := M_Ro_flowAlong) (as := [_, _]) 43 rfl rfl ml_X6_77 (t_Ro_flowAlong (a := 1 + i) (b := 9 + j) ⟨by omega, by omega⟩ ⟨by omega, by omega⟩ (by omega) fb (by rw [top]; exact gy)) rfl rfl (Nat.le_of_ble_eq_true rfl) ⟨Nat.le_of_ble_eq_true rfl, Nat.le_of_ble_eq_true rfl⟩ rfl (Nat.le_of_ble_eq_true rfl) (fun υ u => ?_))))))))
          obtain ⟨u1, u2, u3, u4, u5⟩ := u
          rw [tl, th] at u2
          rw [tx, tl] at u3
          rw [tx] at u4 u5
          rw [top] at u5
          obtain ⟨u6, -⟩ := u5 nop
          have xu : υ 41 ((1 + i) * 18 + (9 + j)) = xF υ (1 + i) (9 + j) := rfl
          refine ok_aload_n 44 rfl rfl rfl (ok_getR 45 rfl rfl fl_X6_11 rfl rfl (ok_iload 46 rfl rfl rfl (ok_dup2 47 rfl rfl ⟨rfl, rfl⟩ (ok_iald 48 rfl rfl rfl (by first | omega | (simp [up_if]; omega) | (simp [up_if] at *; omega)) (ok_iconst 49 rfl rfl (by decide) (ok_isub 50 rfl rfl (by first | omega | (simp [up_if]; omega) | (simp [up_if] at *; omega)) (ok_iast 51 rfl rfl rfl (by first | omega | (simp [up_if]; omega) | (simp [up_if] at *; omega)) ?_)))))))
          refine t2 _ (fr_up (G1.tr (u1.mono (fun c k w => by simp only [rgRo]; omega))) (by simp [rgRo])) (by omega) ?_ ?_ (fun v v1 v2 => ?_) (fun p q p1 p2 q1 q2 no => ?_) ?_ (fun y hy _ => ?_)
          · rw [← tl]; funext p q; unfold lF; rw [up_ne _ _ _ _ (by decide)]; exact u1 42 _ (by simp)
          · rw [← th]; funext p q; unfold hF; rw [up_ne _ _ _ _ (by decide)]; exact u1 43 _ (by simp)
          · rw [ex_add (x := xF υ) (p := 1 + i) (q := 9 + j) (d := -1) ⟨by omega, by omega⟩ ⟨by omega, by omega⟩ (fun v w v1 v2 w1 w2 => by
              rw [xF_up ⟨by omega, by omega⟩ ⟨w1, w2⟩]
              by_cases c : v = 1 + i ∧ w = 9 + j
              · rw [if_pos c, if_pos c, c.1, c.2, xu]; omega
              · rw [if_neg c, if_neg c]) ⟨v1, v2⟩, u4 v v1 v2, H.1 v v1 v2]
            by_cases p : v = 1 + i <;> by_cases q : v = 9 + j
            · omega
            · rw [if_pos p, if_neg q, if_pos p, if_neg q]; omega
            · rw [if_neg p, if_pos q, if_neg p, if_pos q]; omega
            · rw [if_neg p, if_neg q, if_neg p, if_neg q]; omega
          · rw [xF_up ⟨by omega, by omega⟩ ⟨q1, q2⟩, if_neg no]
            have c := u3 p q p1 p2 q1 q2
            have d := H.2.1 p q p1 p2 q1 q2
            have e := u2 p q p1 p2 q1 q2
            omega
          · rw [xF_up ⟨by omega, by omega⟩ ⟨by omega, by omega⟩, if_pos ⟨rfl, rfl⟩]; omega
          · rw [xF_up ⟨by omega, by omega⟩ ⟨by omega, by omega⟩, if_pos ⟨rfl, rfl⟩]
            have := lo0 y hy
            omega
end
section
/-! ROUNDING, the class: lay, round, rounded -/
def LHd (n b : Int) (R : Int → Int → Int) (D : Int → Int → Prop) (ρ : eS) : Prop := ∀ v w, 0 ≤ v → v < 18 → 0 ≤ w → w < 18 → (D v w → lF ρ v w = LOf n b R v w ∧ hF ρ v w = HIf n b R v w) ∧ (¬ D v w → lF ρ v w = 0 ∧ hF ρ v w = 0)
theorem LHd_s {n b p q : Int} {R : Int → Int → Int} {D D' : Int → Int → Prop} {ρ : eS} {y z : Int} (hq : 0 ≤ q ∧ q < 18) (h : LHd n b R D ρ) (ey : y = LOf n b R p q) (ez : z = HIf n b R p q) (hD : ∀ v w, D' v w ↔ (D v w ∨ (v = p ∧ w = q))) : LHd n b R D' (up (up ρ 42 (p * 18 + q) y) 43 (p * 18 + q) z) := fun v w v1 v2 w1 w2 => by
  have e := lF_up (ρ := ρ) (p := p) (q := q) (y := y) (z := z) (v := v) (w := w) hq ⟨w1, w2⟩
  rw [e.1, e.2, hD]
  by_cases c : v = p ∧ w = q
  · rw [if_pos c, if_pos c, c.1, c.2]
    exact ⟨fun _ => ⟨ey, ez⟩, fun u => absurd (Or.inr ⟨rfl, rfl⟩) u⟩
  · rw [if_neg c, if_neg c]
    obtain ⟨a1, a2⟩ := h v w v1 v2 w1 w2
    exact ⟨fun u => by rcases u with u | u; exact a1 u; exact absurd u c, fun u => a2 (fun d => u (Or.inl d))⟩
abbrev layD (n i j v w : Int) : Prop := (v = 0 ∧ 1 ≤ w ∧ w < 1 + i) ∨ ((1 ≤ v ∧ v < 1 + i) ∧ 9 ≤ w ∧ w < 9 + n) ∨ ((9 ≤ v ∧ v < 9 + i) ∧ w = 17) ∨ (v = 1 + i ∧ 9 ≤ w ∧ w < 9 + j)
theorem t_Ro_lay {σ : eS} {t : Nat} {n b : Int} {R : Int → Int → Int} (ht : tA t) (hT : iT σ t) (en : σ t 1 = n) (hn : 1 ≤ n ∧ n ≤ 8) (eb : σ t 2 = b) (eR : ∀ i j, R i j = cT σ t i j % b) : MtV shA M_Ro_lay [vr 40, vr t] σ (fun σ' => fr rgRo σ σ' ∧ LHs n b R σ' ∧ ∀ v w, 0 ≤ v → v < 18 → 0 ≤ w → w < 18 → xF σ' v w = 0) := by
  refine Mt.of okM_Ro_lay (Nat.le_of_ble_eq_true rfl) (fun hk hg => ?_)
  have nA := tA_10 ht
  have hB := hT.2.2.1 (by omega)
  rw [eb] at hB
  have n0 : 0 ≤ n ∧ n ≤ 8 := ⟨by omega, hn.2⟩
  have hR : ∀ i j, 0 ≤ i → i < n → 0 ≤ j → j < n → 0 ≤ R i j ∧ R i j < b := fun i j _ _ _ _ => by rw [eR]; exact ⟨Int.emod_nonneg _ (by omega), Int.emod_lt_of_pos _ (by omega)⟩
  obtain ⟨s1, s2, s3⟩ := sum_bd n0 (B := 999999) (by decide) (fun i j a c d e => ⟨(hR i j a c d e).1, by have := (hR i j a c d e).2; omega⟩)
  have at0 : ∀ i, 0 ≤ i → i < n → LOf n b R 0 (1 + i) = loB' b (sm (fun j => R i j) n.toNat) ∧ HIf n b R 0 (1 + i) = hiB' b (sm (fun j => R i j) n.toNat) := fun i a c => by
    unfold LOf HIf riF
    rw [if_pos (by omega), if_pos (by omega), show 1 + i - 1 = i by omega]; exact ⟨rfl, rfl⟩
  have at1 : ∀ i j, 0 ≤ i → i < n → 0 ≤ j → j < n → LOf n b R (1 + i) (9 + j) = loB' b (R i j) ∧ HIf n b R (1 + i) (9 + j) = hiB' b (R i j) := fun i j a c d f => by
    unfold LOf HIf riF
    rw [if_neg (by omega), if_pos (by omega), if_neg (by omega), if_pos (by omega), show 1 + i - 1 = i by omega, show 9 + j - 9 = j by omega]; exact ⟨rfl, rfl⟩
  have at2 : ∀ j, 0 ≤ j → j < n → LOf n b R (9 + j) 17 = loB' b (sm (fun i => R i j) n.toNat) ∧ HIf n b R (9 + j) 17 = hiB' b (sm (fun i => R i j) n.toNat) := fun j a c => by
    unfold LOf HIf riF
    rw [if_neg (by omega), if_neg (by omega), if_pos (by omega), if_neg (by omega), if_neg (by omega), if_pos (by omega), show 9 + j - 9 = j by omega]; exact ⟨rfl, rfl⟩
  have at3 : LOf n b R 17 0 = loB' b (sm (fun i => sm (fun j => R i j) n.toNat) n.toNat) ∧ HIf n b R 17 0 = hiB' b (sm (fun i => sm (fun j => R i j) n.toNat) n.toNat) := by
    unfold LOf HIf riF
    rw [if_neg (by omega), if_neg (by omega), if_neg (by omega), if_pos (by omega), if_neg (by omega), if_neg (by omega), if_neg (by omega), if_pos (by omega)]; exact ⟨rfl, rfl⟩
  refine ok_aload_n 0 rfl rfl rfl (ok_getR 1 rfl rfl fl_X6_11 rfl rfl (ok_iconst 2 rfl rfl (by decide) (ok_callSV (M' := M_Ja_fill) (as := [_, _]) 3 rfl rfl ml_X6_53 (s_Ja_fill (c := 41) (N := 324) rfl (by decide)) ⟨Nat.le_of_ble_eq_true rfl, Nat.le_of_ble_eq_true rfl⟩ rfl (Nat.le_of_ble_eq_true rfl) (fun τ1 g1 => ?_))))
  refine ok_aload_n 4 rfl rfl rfl (ok_getR 5 rfl rfl fl_X6_15 rfl rfl (ok_iconst 6 rfl rfl (by decide) (ok_callSV (M' := M_Ja_fill) (as := [_, _]) 7 rfl rfl ml_X6_53 (s_Ja_fill (c := 42) (N := 324) rfl (by decide)) ⟨Nat.le_of_ble_eq_true rfl, Nat.le_of_ble_eq_true rfl⟩ rfl (Nat.le_of_ble_eq_true rfl) (fun τ2 g2 => ?_))))
  refine ok_aload_n 8 rfl rfl rfl (ok_getR 9 rfl rfl fl_X6_18 rfl rfl (ok_iconst 10 rfl rfl (by decide) (ok_callSV (M' := M_Ja_fill) (as := [_, _]) 11 rfl rfl ml_X6_53 (s_Ja_fill (c := 43) (N := 324) rfl (by decide)) ⟨Nat.le_of_ble_eq_true rfl, Nat.le_of_ble_eq_true rfl⟩ rfl (Nat.le_of_ble_eq_true rfl) (fun τ3 g3 => ?_))))
  refine ok_iconst 12 rfl rfl (by decide) (ok_ist2 13 rfl rfl rfl (ok_iconst 14 rfl rfl (by decide) (ok_ist3 15 rfl rfl rfl ?_)))
  have F : fr rgRo σ τ3 := ((g1.1.mono (fun c k w => by simp only [rgRo]; omega)).tr (g2.1.mono (fun c k w => by simp only [rgRo]; omega))).tr (g3.1.mono (fun c k w => by simp only [rgRo]; omega))
  have X0 : ∀ k, 0 ≤ k → k < 324 → τ3 41 k = 0 := fun k a c => by rw [g3.1 41 k (by simp), g2.1 41 k (by simp)]; exact g1.2 k a (by omega)
  have D0 : LHd n b R (layD n 0 0) τ3 := fun v w v1 v2 w1 w2 => ⟨fun u => by unfold layD at u; omega, fun _ => ⟨by show τ3 42 _ = 0; rw [g3.1 42 _ (by simp)]; exact g2.2 _ (by omega) (by omega), g3.2 _ (by omega) (by omega)⟩⟩
  refine lpO3 (fun (a i : Int) (_ : eS) => [some (vr 40), some (vr t), some (vi a), some (vi i), none, none, none, none]) (fun _ _ ρ => ρ) (fun a i ρ => (0 ≤ i ∧ i ≤ n) ∧ a = sm (fun i => sm (fun j => R i j) n.toNat) i.toNat ∧ fr rgRo σ ρ ∧ (∀ k, 0 ≤ k → k < 324 → ρ 41 k = 0) ∧ LHd n b R (layD n i 0) ρ) (fun _ i _ => (8 - i).toNat) ?_ 0 0 τ3 ⟨⟨by omega, by omega⟩, rfl, F, X0, D0⟩
  clear D0 X0 F g1 g2 g3 τ1 τ2 τ3
  rintro a i ρ ⟨⟨i1, i2⟩, ea, f, X, D⟩ ih
  have e1 : ρ t 1 = n := by rw [f t 1 (by simp only [rgRo]; omega), en]
  have e2 : ρ t 2 = b := by rw [f t 2 (by simp only [rgRo]; omega), eb]
  have ab : 0 ≤ a ∧ a ≤ 64000000 := by
    have x := sm_bd (f := fun i => sm (fun j => R i j) n.toNat) (B := 999999 * 8) (by decide) (n := i.toNat) (fun k c d => s1 k c (by omega))
    rw [← ea] at x
    omega
  have es := sm_s (fun i => sm (fun j => R i j) n.toNat) i1
  refine ok_iload_n 16 rfl rfl rfl (ok_aload_n 17 rfl rfl rfl (ok_getI 18 rfl rfl fl_X6_31 (sT ht) rfl (Or.inl rfl) (ok_icmp_ge 19 167 rfl rfl rfl (fun h33 => ?_) (fun h33 => ?_))))
  · refine ok_aload_n 97 rfl rfl rfl (ok_bipush 98 rfl rfl (by decide) (by decide) (ok_iconst 99 rfl rfl (by decide) (ok_iload_n 100 rfl rfl rfl (ok_aload_n 101 rfl rfl rfl (ok_getI 102 rfl rfl fl_X6_62 (sT ht) rfl (Or.inl rfl) ?_)))))
    rw [e2]
    refine ok_callVV (M' := M_Ro_setBounds) (as := [_, _, _, _]) 103 rfl rfl ml_X6_65 (t_Ro_setBounds (b := b) ⟨by omega, by omega⟩ ⟨by omega, by omega⟩ ab hB.1) rfl rfl (Nat.le_of_ble_eq_true rfl) ⟨Nat.le_of_ble_eq_true rfl, Nat.le_of_ble_eq_true rfl⟩ rfl (Nat.le_of_ble_eq_true rfl) (fun τ g => ?_)
    refine ok_vret 104 rfl rfl rfl ?_
    have ei : i = n := by omega
    rw [ei] at ea D
    have D2 := LHd_s (D' := fun v w => layD n n 0 v w ∨ (v = 17 ∧ w = 0)) (p := 17) (q := 0) ⟨by omega, by omega⟩ D (by rw [at3.1, ← ea]) (by rw [at3.2, ← ea]) (fun _ _ => Iff.rfl)
    rw [← g] at D2
    refine ⟨rfl, by rw [g]; exact fr_up (fr_up f (by simp [rgRo])) (by simp [rgRo]), fun v w v1 v2 w1 w2 => ?_, fun v w v1 v2 w1 w2 => ?_⟩
    · obtain ⟨d1, d2⟩ := D2 v w v1 v2 w1 w2
      by_cases c : layD n n 0 v w ∨ (v = 17 ∧ w = 0)
      · exact d1 c
      · have z : LOf n b R v w = 0 ∧ HIf n b R v w = 0 := by
          unfold layD at c
          unfold LOf HIf riF
          rw [if_neg (by omega), if_neg (by omega), if_neg (by omega), if_neg (by omega), if_neg (by omega), if_neg (by omega), if_neg (by omega), if_neg (by omega)]; exact ⟨rfl, rfl⟩
        rw [z.1, z.2]; exact d2 c
    · unfold xF; rw [g, up_ne _ _ _ _ (by decide), up_ne _ _ _ _ (by decide)]; exact X _ (by omega) (by omega)
  · refine ok_iconst 20 rfl rfl (by decide) (ok_ist4 21 rfl rfl rfl (ok_iconst 22 rfl rfl (by decide) (ok_ist5 23 rfl rfl rfl (ok_iconst 24 rfl rfl (by decide) (ok_ist6 25 rfl rfl rfl ?_)))))
    have il : i < n := by omega
    refine lpO4 (fun (u v j : Int) (_ : eS) => [some (vr 40), some (vr t), some (vi a), some (vi i), some (vi u), some (vi v), some (vi j), none]) (fun _ _ _ ρ => ρ) (fun u v j ρ => (0 ≤ j ∧ j ≤ n) ∧ u = sm (fun j => R i j) j.toNat ∧ v = sm (fun j => R j i) j.toNat ∧ fr rgRo σ ρ ∧ (∀ k, 0 ≤ k → k < 324 → ρ 41 k = 0) ∧ LHd n b R (layD n i j) ρ) (fun _ _ j _ => (8 - j).toNat) ?_ 0 0 0 ρ ⟨⟨by omega, by omega⟩, rfl, rfl, f, X, D⟩
    clear e1 e2 h33 f X D ρ
    rintro u v j ρ ⟨⟨j1, j2⟩, eu, ev, f, X, D⟩ ih2
    have e1 : ρ t 1 = n := by rw [f t 1 (by simp only [rgRo]; omega), en]
    have e2 : ρ t 2 = b := by rw [f t 2 (by simp only [rgRo]; omega), eb]
    have ub : 0 ≤ u ∧ u ≤ 999999 * 8 := by
      have x := sm_bd (f := fun j => R i j) (B := 999999) (by decide) (n := j.toNat) (fun k c d => ⟨(hR i k i1 il c (by omega)).1, by have := (hR i k i1 il c (by omega)).2; omega⟩)
      rw [← eu] at x
      omega
    have vb : 0 ≤ v ∧ v ≤ 999999 * 8 := by
      have x := sm_bd (f := fun j => R j i) (B := 999999) (by decide) (n := j.toNat) (fun k c d => ⟨(hR k i c (by omega) i1 il).1, by have := (hR k i c (by omega) i1 il).2; omega⟩)
      rw [← ev] at x
      omega
    have us := sm_s (fun j => R i j) j1
    have vs := sm_s (fun j => R j i) j1
    refine ok_iload 26 rfl rfl rfl (ok_aload_n 27 rfl rfl rfl (ok_getI 28 rfl rfl fl_X6_31 (sT ht) rfl (Or.inl rfl) (ok_icmp_ge 29 126 rfl rfl rfl (fun h51 => ?_) (fun h51 => ?_))))
    · have ej : j = n := by omega
      rw [ej] at eu ev D
      refine ok_aload_n 73 rfl rfl rfl (ok_iconst 74 rfl rfl (by decide) (ok_iconst 75 rfl rfl (by decide) (ok_iload_n 76 rfl rfl rfl (ok_iadd 77 rfl rfl (by first | omega | (simp [up_if]; omega) | (simp [up_if] at *; omega)) (ok_iload 78 rfl rfl rfl (ok_aload_n 79 rfl rfl rfl (ok_getI 80 rfl rfl fl_X6_62 (sT ht) rfl (Or.inl rfl) ?_)))))))
      rw [e2]
      refine ok_callVV (M' := M_Ro_setBounds) (as := [_, _, _, _]) 81 rfl rfl ml_X6_65 (t_Ro_setBounds (b := b) ⟨by omega, by omega⟩ ⟨by omega, by omega⟩ ⟨ub.1, by omega⟩ hB.1) rfl rfl (Nat.le_of_ble_eq_true rfl) ⟨Nat.le_of_ble_eq_true rfl, Nat.le_of_ble_eq_true rfl⟩ rfl (Nat.le_of_ble_eq_true rfl) (fun τ g => ?_)
      have F2 : fr rgRo σ τ := by rw [g]; exact fr_up (fr_up f (by simp [rgRo])) (by simp [rgRo])
      have D2 := LHd_s (D' := fun v w => layD n i n v w ∨ (v = 0 ∧ w = 1 + i)) (p := 0) (q := 1 + i) ⟨by omega, by omega⟩ D (by rw [(at0 i i1 il).1, ← eu]) (by rw [(at0 i i1 il).2, ← eu]) (fun _ _ => Iff.rfl)
      rw [← g] at D2
      have X2 : ∀ k, 0 ≤ k → k < 324 → τ 41 k = 0 := fun k a c => by rw [g, up_ne _ _ _ _ (by decide), up_ne _ _ _ _ (by decide)]; exact X k a c
      have d3 : τ t 2 = b := by rw [F2 t 2 (by simp only [rgRo]; omega), eb]
      refine ok_aload_n 82 rfl rfl rfl (ok_bipush 83 rfl rfl (by decide) (by decide) (ok_iload_n 84 rfl rfl rfl (ok_iadd 85 rfl rfl (by first | omega | (simp [up_if]; omega) | (simp [up_if] at *; omega)) (ok_bipush 86 rfl rfl (by decide) (by decide) (ok_iload 87 rfl rfl rfl (ok_aload_n 88 rfl rfl rfl (ok_getI 89 rfl rfl fl_X6_62 (sT ht) rfl (Or.inl rfl) ?_)))))))
      rw [d3]
      refine ok_callVV (M' := M_Ro_setBounds) (as := [_, _, _, _]) 90 rfl rfl ml_X6_65 (t_Ro_setBounds (b := b) ⟨by omega, by omega⟩ ⟨by omega, by omega⟩ ⟨vb.1, by omega⟩ hB.1) rfl rfl (Nat.le_of_ble_eq_true rfl) ⟨Nat.le_of_ble_eq_true rfl, Nat.le_of_ble_eq_true rfl⟩ rfl (Nat.le_of_ble_eq_true rfl) (fun υ w => ?_)
      refine ok_iload_n 91 rfl rfl rfl (ok_iload 92 rfl rfl rfl (ok_iadd 93 rfl rfl (by first | omega | (simp [up_if]; omega) | (simp [up_if] at *; omega)) (ok_ist2 94 rfl rfl rfl (ok_inc3 95 rfl rfl rfl (by first | omega | (simp [up_if]; omega) | (simp [up_if] at *; omega)) (ok_goto 96 28 rfl rfl rfl ?_)))))
      have D3 := LHd_s (D' := layD n (i + 1) 0) (p := 9 + i) (q := 17) ⟨by omega, by omega⟩ D2 (by rw [(at2 i i1 il).1, ← ev]) (by rw [(at2 i i1 il).2, ← ev]) (fun v w => by unfold layD; omega)
      rw [← w] at D3
      refine ok_fg [some (vr 40), some (vr t), some (vi _), some (vi (i + 1)), none, none, none, none] ⟨rfl, rfl, rfl, rfl, trivial⟩ (ih _ (i + 1) υ ⟨⟨by omega, by omega⟩, by rw [es, ← ea, eu], by rw [w]; exact fr_up (fr_up F2 (by simp [rgRo])) (by simp [rgRo]), fun k a c => by rw [w, up_ne _ _ _ _ (by decide), up_ne _ _ _ _ (by decide)]; exact X2 k a c, D3⟩ (by omega))
    · have c1 := hT.2.2.2 (i * 8 + j) (by omega) (by omega)
      have c2 := hT.2.2.2 (j * 8 + i) (by omega) (by omega)
      have f1 : ρ (t + 4) (i * 8 + j) = cT σ t i j := f (t + 4) _ (by simp only [rgRo]; omega)
      have r1 := hR i j i1 il j1 (by omega)
      have r2 := hR j i j1 (by omega) i1 il
      have d1 : cT σ t i j = σ (t + 4) (i * 8 + j) := rfl
      have d2 : cT σ t j i = σ (t + 4) (j * 8 + i) := rfl
      have q1 := eR i j
      have q2 := eR j i
      refine ok_aload_n 30 rfl rfl rfl (ok_getR 31 rfl rfl fl_X6_59 (sT ht) rfl (ok_iload_n 32 rfl rfl rfl (ok_bipush 33 rfl rfl (by decide) (by decide) (ok_imul 34 rfl rfl (by first | omega | (simp [up_if]; omega) | (simp [up_if] at *; omega)) (ok_iload 35 rfl rfl rfl (ok_iadd 36 rfl rfl (by first | omega | (simp [up_if]; omega) | (simp [up_if] at *; omega)) (ok_iald 37 rfl rfl (sC ht) (by first | omega | (simp [up_if]; omega) | (simp [up_if] at *; omega)) (ok_aload_n 38 rfl rfl rfl (ok_getI 39 rfl rfl fl_X6_62 (sT ht) rfl (Or.inl rfl) (ok_irem 40 rfl rfl (by first | omega | (simp [up_if]; omega) | (simp [up_if] at *; omega)) (by first | omega | (simp [up_if]; omega) | (simp [up_if] at *; omega)) ?_))))))))))
      rw [f1, e2, ← q1]
      refine ok_ist7 41 rfl rfl rfl (ok_aload_n 42 rfl rfl rfl (ok_iconst 43 rfl rfl (by decide) (ok_iload_n 44 rfl rfl rfl (ok_iadd 45 rfl rfl (by first | omega | (simp [up_if]; omega) | (simp [up_if] at *; omega)) (ok_bipush 46 rfl rfl (by decide) (by decide) (ok_iload 47 rfl rfl rfl (ok_iadd 48 rfl rfl (by first | omega | (simp [up_if]; omega) | (simp [up_if] at *; omega)) (ok_iload 49 rfl rfl rfl (ok_aload_n 50 rfl rfl rfl (ok_getI 51 rfl rfl fl_X6_62 (sT ht) rfl (Or.inl rfl) ?_))))))))))
      rw [e2]
      refine ok_callVV (M' := M_Ro_setBounds) (as := [_, _, _, _]) 52 rfl rfl ml_X6_65 (t_Ro_setBounds (b := b) ⟨by omega, by omega⟩ ⟨by omega, by omega⟩ ⟨r1.1, by omega⟩ hB.1) rfl rfl (Nat.le_of_ble_eq_true rfl) ⟨Nat.le_of_ble_eq_true rfl, Nat.le_of_ble_eq_true rfl⟩ rfl (Nat.le_of_ble_eq_true rfl) (fun τ g => ?_)
      have F2 : fr rgRo σ τ := by rw [g]; exact fr_up (fr_up f (by simp [rgRo])) (by simp [rgRo])
      have D2 := LHd_s (D' := layD n i (j + 1)) (p := 1 + i) (q := 9 + j) ⟨by omega, by omega⟩ D (by rw [(at1 i j i1 il j1 (by omega)).1]) (by rw [(at1 i j i1 il j1 (by omega)).2]) (fun v w => by unfold layD; omega)
      rw [← g] at D2
      have X2 : ∀ k, 0 ≤ k → k < 324 → τ 41 k = 0 := fun k a c => by rw [g, up_ne _ _ _ _ (by decide), up_ne _ _ _ _ (by decide)]; exact X k a c
      have d3 : τ t 2 = b := by rw [F2 t 2 (by simp only [rgRo]; omega), eb]
      have f2 : τ (t + 4) (j * 8 + i) = cT σ t j i := F2 (t + 4) _ (by simp only [rgRo]; omega)
      refine ok_iload 53 rfl rfl rfl (ok_iload 54 rfl rfl rfl (ok_iadd 55 rfl rfl (by first | omega | (simp [up_if]; omega) | (simp [up_if] at *; omega)) (ok_ist4 56 rfl rfl rfl (ok_iload 57 rfl rfl rfl (ok_aload_n 58 rfl rfl rfl (ok_getR 59 rfl rfl fl_X6_59 (sT ht) rfl (ok_iload 60 rfl rfl rfl (ok_bipush 61 rfl rfl (by decide) (by decide) (ok_imul 62 rfl rfl (by first | omega | (simp [up_if]; omega) | (simp [up_if] at *; omega)) (ok_iload_n 63 rfl rfl rfl (ok_iadd 64 rfl rfl (by first | omega | (simp [up_if]; omega) | (simp [up_if] at *; omega)) (ok_iald 65 rfl rfl (sC ht) (by first | omega | (simp [up_if]; omega) | (simp [up_if] at *; omega)) (ok_aload_n 66 rfl rfl rfl (ok_getI 67 rfl rfl fl_X6_62 (sT ht) rfl (Or.inl rfl) (ok_irem 68 rfl rfl (by first | omega | (simp [up_if]; omega) | (simp [up_if] at *; omega)) (by first | omega | (simp [up_if]; omega) | (simp [up_if] at *; omega)) ?_)))))))))))))))
      rw [f2, d3, ← q2]
      refine ok_iadd 69 rfl rfl (by first | omega | (simp [up_if]; omega) | (simp [up_if] at *; omega)) (ok_ist5 70 rfl rfl rfl (ok_inc6 71 rfl rfl rfl (by first | omega | (simp [up_if]; omega) | (simp [up_if] at *; omega)) (ok_goto 72 45 rfl rfl rfl ?_)))
      exact ok_fg [some (vr 40), some (vr t), some (vi a), some (vi i), some (vi _), some (vi _), some (vi (j + 1)), none] ⟨rfl, rfl, rfl, rfl, rfl, rfl, rfl, trivial⟩ (ih2 _ _ (j + 1) τ ⟨⟨by omega, by omega⟩, by rw [us, eu], by rw [vs, ev], F2, X2, D2⟩ (by omega))
def rndS (n b : Int) (R : Int → Int → Int) (z : Int) : Prop := ∃ x : Int → Int → Int, fitR n b R x ∧ frst n b R x (n * n) ∧ ∀ i j, 0 ≤ i → i < n → 0 ≤ j → j < n → x i j = if jb z i j = true then 1 else 0
theorem t_Ro_round {σ : eS} {t : Nat} {n b : Int} {R : Int → Int → Int} (ht : tA t) (hT : iT σ t) (en : σ t 1 = n) (hn : 1 ≤ n ∧ n ≤ 8) (eb : σ t 2 = b) (eR : ∀ i j, R i j = cT σ t i j % b) : MtV shA M_Ro_round [vr 40, vr t] σ (fun σ' => fr (rgRd t) σ σ' ∧ σ' t 4 = 1 ∧ rndS n b R (σ' t 5)) := by
  refine Mt.of okM_Ro_round (Nat.le_of_ble_eq_true rfl) (fun hk hg => ?_)
  have nA := tA_10 ht
  have hB := hT.2.2.1 (by omega)
  rw [eb] at hB
  have n0 : 0 ≤ n ∧ n ≤ 8 := ⟨by omega, hn.2⟩
  have hR : ∀ i j, 0 ≤ i → i < n → 0 ≤ j → j < n → 0 ≤ R i j ∧ R i j < b := fun i j _ _ _ _ => by rw [eR]; exact ⟨Int.emod_nonneg _ (by omega), Int.emod_lt_of_pos _ (by omega)⟩
  have bd := LH_bd n0 hB.1 hR
  refine ok_aload_n 0 rfl rfl rfl (ok_aload_n 1 rfl rfl rfl (ok_callVV (M' := M_Ro_lay) (as := [_]) 2 rfl rfl ml_X6_27 (t_Ro_lay ht hT en hn eb eR) rfl rfl (Nat.le_of_ble_eq_true rfl) ⟨Nat.le_of_ble_eq_true rfl, Nat.le_of_ble_eq_true rfl⟩ rfl (Nat.le_of_ble_eq_true rfl) (fun τ f => ?_)))
  obtain ⟨f1, f2, f3⟩ := f
  have e1 : τ t 1 = n := by rw [f1 t 1 (by simp only [rgRo]; omega), en]
  have K0 : rngK (xF τ) (lF τ) (hF τ) := by
    refine ⟨fun v a c => ?_, fun v w v1 v2 w1 w2 => ?_⟩
    · unfold exN
      rw [sm_cg (g := fun _ => (0 : Int)) (fun w d e => f3 v w a c d (by omega)), sm_cg (f := fun w => xF τ w v) (g := fun _ => (0 : Int)) (fun w d e => f3 w v d (by omega) a c)]
      omega
    · have := bd v w
      rw [f3 v w v1 v2 w1 w2, (f2 v w v1 v2 w1 w2).1, (f2 v w v1 v2 w1 w2).2]
      omega
  refine ok_aload_n 3 rfl rfl rfl (ok_aload_n 4 rfl rfl rfl (ok_getI 5 rfl rfl fl_X6_31 (sT ht) rfl (Or.inl rfl) ?_))
  rw [e1]
  refine ok_callVV (M' := M_Ro_meetLows) (as := [_]) 6 rfl rfl ml_X6_37 (t_Ro_meetLows hn hB.1 hR f2 K0) rfl rfl (Nat.le_of_ble_eq_true rfl) ⟨Nat.le_of_ble_eq_true rfl, Nat.le_of_ble_eq_true rfl⟩ rfl (Nat.le_of_ble_eq_true rfl) (fun υ g => ?_)
  obtain ⟨g1, g2, g3⟩ := g
  have e2 : υ t 1 = n := by rw [g1 t 1 (by simp only [rgMl]; omega), e1]
  have gl : lF υ = lF τ := by funext v w; exact g1 42 _ (by simp [rgMl])
  have gh : hF υ = hF τ := by funext v w; exact g1 43 _ (by simp [rgMl])
  have P0 : lsP n b R (xF υ) (lF υ) (hF υ) 0 := by
    refine ⟨g2.1, fun p q p1 p2 q1 q2 => ?_, fun p q p1 p2 q1 q2 => Or.inl ?_, fun i j a c d e w => ?_, fun i j a c d e w => ?_⟩
    · have x := g2.2 p q p1 p2 q1 q2
      have y := g3 p q p1 p2 q1 q2
      have z := f2 p q p1 p2 q1 q2
      rw [gl, gh]
      omega
    · rw [gl, gh]; exact f2 p q p1 p2 q1 q2
    · have := ix8 (n := n) (i := i) (j := j) n0 ⟨a, c⟩ ⟨d, e⟩; omega
    · have := ix8 (n := n) (i := i) (j := j) n0 ⟨a, c⟩ ⟨d, e⟩; omega
  refine ok_aload_n 7 rfl rfl rfl (ok_aload_n 8 rfl rfl rfl (ok_aload_n 9 rfl rfl rfl (ok_getI 10 rfl rfl fl_X6_31 (sT ht) rfl (Or.inl rfl) ?_)))
  rw [e2]
  refine ok_callVL (M' := M_Ro_lessen) (as := [_]) 11 rfl rfl ml_X6_41 (t_Ro_lessen hn hB.1 hR P0) rfl rfl (Nat.le_of_ble_eq_true rfl) ⟨Nat.le_of_ble_eq_true rfl, Nat.le_of_ble_eq_true rfl⟩ rfl (Nat.le_of_ble_eq_true rfl) (fun ω z u => ?_)
  refine ok_putL 12 rfl rfl fl_X6_45 (sT ht) rfl rfl rfl (ok_aload_n 13 rfl rfl rfl (ok_iconst 14 rfl rfl (by decide) (ok_putZ 15 rfl rfl fl_X6_49 (sT ht) rfl rfl rfl (by first | omega | (simp [up_if]; omega) | (simp [up_if] at *; omega)) (ok_vret 16 rfl rfl rfl ?_))))
  refine ⟨rfl, fr_up (fr_up (((f1.tr (g1.mono (fun c k w => by simp only [rgMl, rgRo] at w ⊢; omega))).tr u.1).mono (fun c k w => Or.inl w)) (by simp [rgRd])) (by simp [rgRd]), by rw [up_same], ?_⟩
  rw [up_nk _ _ _ _ (by decide), up_same]
  exact u.2
end
section
/-! ROUNDED, the class: what was found is kept, and right -/
theorem bit_at {Z p : Int} (hp : 0 ≤ p ∧ p < 64) : wr (land (lushr Z p) 1) = if lb Z p.toNat = true then 1 else 0 := by
  have bits : ∀ i, i < 32 → ib (wr (land (lushr Z p) 1)) i = (lb Z (p.toNat + i) && decide (i = 0)) := fun i hi => by
    rw [ib_wr _ hi, lb_and, show p = ((p.toNat : Nat) : Int) by omega, lb_ushr _ (by omega), lb_1 ⟨i, by omega⟩, show (((p.toNat : Nat) : Int)).toNat = p.toNat by omega]
  have hs : 0 ≤ wr (land (lushr Z p) 1) ∧ wr (land (lushr Z p) 1) < 256 := sm_bits (rg_wr _) (fun i a c => by rw [bits i c, decide_eq_false (by omega), Bool.and_false])
  refine bt_ext hs (by split <;> omega) (fun c a d => ?_)
  rw [bt_ib hs ⟨a, d⟩, bits _ (by omega)]
  by_cases q : c = 0
  · subst q
    rw [show (0 : Int).toNat = 0 by rfl, Nat.add_zero, decide_eq_true rfl, Bool.and_true]
    cases w : lb Z p.toNat
    · rfl
    · rfl
  · rw [decide_eq_false (by omega), Bool.and_false]
    obtain ⟨k, ek⟩ : ∃ k : Nat, c = ((k + 1 : Nat) : Int) := ⟨c.toNat - 1, by omega⟩
    subst ek
    split
    · show false = Nat.testBit 1 (((k + 1 : Nat) : Int)).toNat
      rw [show (((k + 1 : Nat) : Int)).toNat = k + 1 by omega, Nat.testBit_succ]
      exact (Nat.zero_testBit k).symm
    · exact (bt_0 _).symm
def KRd (σ : eS) : Prop := ∀ s : Int, 0 ≤ s → s < 4 → σ (s.toNat + 2) 4 ≠ 0 → 0 < σ (s.toNat + 2) 1 ∧ rndS (σ (s.toNat + 2) 1) (σ (s.toNat + 2) 2) (fun i j => cT σ (s.toNat + 2) i j % σ (s.toNat + 2) 2) (σ (s.toNat + 2) 5)
def roS (C : Prop) (n b : Int) (W : Int → Int → Int) (i j z : Int) : Prop := (¬ C ∧ z = -1) ∨ (C ∧ ∃ x : Int → Int → Int, fitR n b (fun i j => W i j % b) x ∧ frst n b (fun i j => W i j % b) x (n * n) ∧ z = W i j / b + x i j)
theorem t_Ev_rounded {σ : eS} {s i j : Int} (h : IA σ) (hK : KRd σ) : MtI shA M_Ev_rounded [vr 0, vi s, vi i, vi j] σ (fun σ' z => QAr σ σ' ∧ KRd σ' ∧ roS (celA σ s i j) (σ (s.toNat + 2) 1) (σ (s.toNat + 2) 2) (cT σ (s.toNat + 2)) i j z) := by
  refine Mt.of okM_Ev_rounded (Nat.le_of_ble_eq_true rfl) (fun hk hg => ?_)
  refine ok_aload_n 0 rfl rfl rfl (ok_iload_n 1 rfl rfl rfl (ok_callVR (M' := M_Ev_slotAt) (as := [_]) 2 rfl rfl ml_X11_86 (s_Ev_slotAt) rfl rfl (Nat.le_of_ble_eq_true rfl) ⟨Nat.le_of_ble_eq_true rfl, Nat.le_of_ble_eq_true rfl⟩ rfl (Nat.le_of_ble_eq_true rfl) (fun σ' z hz => ?_)))
  obtain ⟨hs_, hz⟩ := hz
  rw [hs_]; clear hs_ σ'
  rcases hz with ⟨q, q2⟩ | ⟨q1, q2, q⟩
  · subst q
    refine ok_ast4 3 rfl rfl rfl (ok_aload 4 rfl rfl rfl (ok_ifnullN 5 30 rfl rfl rfl (ok_iconst 14 rfl rfl (by decide) (ok_iret 15 rfl rfl rfl ?_))))
    exact ⟨_, rfl, (QA_rf h).r, hK, Or.inl ⟨fun c => q2 ⟨c.1, c.2.1⟩, rfl⟩⟩
  · subst q
    have ht := sl_tA ⟨q1, q2⟩
    have nA := tA_10 ht
    have hT := (h.2.1 _ ht).1
    have n1 := hT.1
    have n2 := hT.2.1
    have tail : 0 ≤ i → i < σ (s.toNat + 2) 1 → 0 ≤ j → j < σ (s.toNat + 2) 1 → ∀ τ : eS, fr (rgRd (s.toNat + 2)) σ τ → KRd τ → rndS (σ (s.toNat + 2) 1) (σ (s.toNat + 2) 2) (fun i j => cT σ (s.toNat + 2) i j % σ (s.toNat + 2) 2) (τ (s.toNat + 2) 5) → Ok shA M_Ev_rounded 49 [some (vr 0), some (vi s), some (vi i), some (vi j), some (vr (s.toNat + 2)), none] [] τ (fun σ' v => ∃ z, v = some (vi z) ∧ QAr σ σ' ∧ KRd σ' ∧ roS (celA σ s i j) (σ (s.toNat + 2) 1) (σ (s.toNat + 2) 2) (cT σ (s.toNat + 2)) i j z) := by
      intro i1 i2 j1 j2 τ f hk hr
      have hB := hT.2.2.1 (by omega)
      have e2 : τ (s.toNat + 2) 2 = σ (s.toNat + 2) 2 := f _ _ (by simp only [rgRd]; omega)
      have e4 : τ (s.toNat + 6) (i * 8 + j) = cT σ (s.toNat + 2) i j := f _ _ (by simp only [rgRd]; omega)
      have c1 := cT_bd hT (i := i) (j := j) ⟨i1, by omega⟩ ⟨j1, by omega⟩
      have d1 := div_bd (u := cT σ (s.toNat + 2) i j) (g := σ (s.toNat + 2) 2) (B := 99999999) c1 hB.1
      obtain ⟨x, x1, x2, x3⟩ := hr
      have x4 := x3 i j i1 i2 j1 j2
      have ba := bit_at (Z := τ (s.toNat + 2) 5) (p := i * 8 + j) ⟨by omega, by omega⟩
      have bb : (if lb (τ (s.toNat + 2) 5) (i * 8 + j).toNat = true then (1 : Int) else 0) = x i j := by rw [x4]; rfl
      rw [bb] at ba
      have xb : 0 ≤ x i j ∧ x i j ≤ 1 := by rw [x4]; split <;> omega
      refine ok_iload_n 23 rfl rfl rfl (ok_bipush 24 rfl rfl (by decide) (by decide) (ok_imul 25 rfl rfl (by first | omega | (simp [up_if]; omega) | (simp [up_if] at *; omega)) (ok_iload_n 26 rfl rfl rfl (ok_iadd 27 rfl rfl (by first | omega | (simp [up_if]; omega) | (simp [up_if] at *; omega)) (ok_ist5 28 rfl rfl rfl (ok_aload 29 rfl rfl rfl (ok_getR 30 rfl rfl fl_X11_133 (sT ht) rfl (ok_iload 31 rfl rfl rfl (ok_iald 32 rfl rfl (sC ht) (by first | omega | (simp [up_if]; omega) | (simp [up_if] at *; omega)) (ok_aload 33 rfl rfl rfl (ok_getI 34 rfl rfl fl_X11_106 (sT ht) rfl (Or.inl rfl) ?_)))))))))))
      rw [e4, e2]
      refine ok_idiv 35 rfl rfl (by first | omega | (simp [up_if]; omega) | (simp [up_if] at *; omega)) (by first | omega | (simp [up_if]; omega) | (simp [up_if] at *; omega)) (ok_aload 36 rfl rfl rfl (ok_getL 37 rfl rfl fl_X11_266 (sT ht) rfl (ok_iload 38 rfl rfl rfl (ok_lushr 39 rfl rfl (ok_lconst (w := 1) 40 rfl rfl rfl (by decide) (ok_land 41 rfl rfl (ok_l2iW 42 rfl rfl ?_)))))))
      rw [ba]
      refine ok_iadd 43 rfl rfl (by first | omega | (simp [up_if]; omega) | (simp [up_if] at *; omega)) (ok_iret 44 rfl rfl rfl ?_)
      refine ⟨_, rfl, QA_R h (f.mono (fun c k w => by simp only [rgRd] at w; omega)) (iCh_cg h.2.2.1 (fun k => f _ _ (by simp only [rgRd]; omega))) (mkS_fr (by decide) f (by simp only [rgRd]; omega) (fun k => by simp only [rgRd]; omega)), hk, Or.inr ⟨⟨q1, q2, i1, i2, j1, j2⟩, x, x1, x2, rfl⟩⟩
    refine ok_ast4 3 rfl rfl rfl (ok_aload 4 rfl rfl rfl (ok_ifnull 5 rfl rfl (ok_aload 6 rfl rfl rfl (ok_iload_n 7 rfl rfl rfl (ok_callVI (M' := M_Ta_has) (as := [_]) 8 rfl rfl ml_X11_129 (s_Ta_has ht) (sT ht) rfl (Nat.le_of_ble_eq_true rfl) ⟨Nat.le_of_ble_eq_true rfl, Nat.le_of_ble_eq_true rfl⟩ rfl (Nat.le_of_ble_eq_true rfl) (fun σ' z1 x1 => ?_))))))
    obtain ⟨hs_, x1⟩ := x1
    rw [hs_]; clear hs_ σ'
    refine ok_if_eq 9 30 rfl rfl rfl (fun h18 => ?_) (fun h18 => ?_)
    · refine ok_iconst 14 rfl rfl (by decide) (ok_iret 15 rfl rfl rfl ?_)
      exact ⟨_, rfl, (QA_rf h).r, hK, Or.inl ⟨fun c => by obtain ⟨-, -, c1, c2, c3, c4⟩ := c; omega, rfl⟩⟩
    · refine ok_aload 10 rfl rfl rfl (ok_iload_n 11 rfl rfl rfl (ok_callVI (M' := M_Ta_has) (as := [_]) 12 rfl rfl ml_X11_129 (s_Ta_has ht) (sT ht) rfl (Nat.le_of_ble_eq_true rfl) ⟨Nat.le_of_ble_eq_true rfl, Nat.le_of_ble_eq_true rfl⟩ rfl (Nat.le_of_ble_eq_true rfl) (fun σ' z2 x2 => ?_)))
      obtain ⟨hs_, x2⟩ := x2
      rw [hs_]; clear hs_ σ'
      refine ok_if_ne 13 32 rfl rfl rfl (fun h27 => ?_) (fun h27 => ?_)
      · refine ok_aload 16 rfl rfl rfl (ok_getI 17 rfl rfl fl_X11_260 (sT ht) rfl (Or.inr rfl) (ok_if_ne 18 49 rfl rfl rfl (fun h37 => ?_) (fun h37 => ?_)))
        · exact tail (by omega) (by omega) (by omega) (by omega) σ fr.rf hK (hK s q1 q2 (by omega)).2
        · refine ok_aload_n 19 rfl rfl rfl (ok_getR 20 rfl rfl fl_X11_62 rfl rfl (ok_aload 21 rfl rfl rfl (ok_callVV (M' := M_Ro_round) (as := [_]) 22 rfl rfl ml_X11_263 (t_Ro_round (n := σ (s.toNat + 2) 1) (b := σ (s.toNat + 2) 2) (R := fun i j => cT σ (s.toNat + 2) i j % σ (s.toNat + 2) 2) ht hT rfl ⟨by omega, n2⟩ rfl (fun _ _ => rfl)) rfl rfl (Nat.le_of_ble_eq_true rfl) ⟨Nat.le_of_ble_eq_true rfl, Nat.le_of_ble_eq_true rfl⟩ rfl (Nat.le_of_ble_eq_true rfl) (fun τ f => ?_))))
          obtain ⟨f1, f2, f3⟩ := f
          have k0 : KRd τ := fun s' s1 s2 q => by
            have cc : cT τ (s'.toNat + 2) = cT σ (s'.toNat + 2) := by funext i j; exact f1 _ _ (by simp only [rgRd]; omega)
            have e1 : τ (s'.toNat + 2) 1 = σ (s'.toNat + 2) 1 := f1 _ _ (by simp only [rgRd]; omega)
            have e3 : τ (s'.toNat + 2) 2 = σ (s'.toNat + 2) 2 := f1 _ _ (by simp only [rgRd]; omega)
            by_cases x : s' = s
            · subst x
              rw [cc, e1, e3]
              exact ⟨by omega, f3⟩
            · have e4 : τ (s'.toNat + 2) 4 = σ (s'.toNat + 2) 4 := f1 _ _ (by simp only [rgRd]; omega)
              have e5 : τ (s'.toNat + 2) 5 = σ (s'.toNat + 2) 5 := f1 _ _ (by simp only [rgRd]; omega)
              rw [e4] at q
              rw [cc, e1, e3, e5]
              exact hK s' s1 s2 q
          exact tail (by omega) (by omega) (by omega) (by omega) τ f1 k0 f3
      · refine ok_iconst 14 rfl rfl (by decide) (ok_iret 15 rfl rfl rfl ?_)
        exact ⟨_, rfl, (QA_rf h).r, hK, Or.inl ⟨fun c => by obtain ⟨-, -, c1, c2, c3, c4⟩ := c; omega, rfl⟩⟩
end
section
/-! ROUNDING, the reference: a way, and an edge -/
def TrO (τ : eS) (tl : Int) : Prop := ∀ v, 0 ≤ v → v < 20 → τ 18 v ≠ -1 → ∃ q, 0 ≤ q ∧ q < tl ∧ τ 19 q = v
def TrP (τ : eS) (h : Int) : Prop := ∀ q w, 0 ≤ q → q < h → 0 ≤ w → w < 20 → 0 < τ 17 (20 * τ 19 q + w) → τ 18 w ≠ -1
theorem TrO_s {τ : eS} {tl v z : Int} (h : TrO τ tl) (htl : 0 ≤ tl) : TrO (up (up τ 18 v z) 19 tl v) (tl + 1) := fun w a b c => by
  rw [up_ne _ _ _ _ (by decide)] at c
  by_cases q : w = v
  · exact ⟨tl, htl, by omega, by rw [up_same, q]⟩
  · rw [up_nk _ _ _ _ q] at c
    obtain ⟨k, k1, k2, k3⟩ := h w a b c
    exact ⟨k, k1, by omega, by rw [up_nk _ _ _ _ (by omega), up_ne _ _ _ _ (by decide)]; exact k3⟩
theorem TrP_s {τ : eS} {tl h v z : Int} (hp : TrP τ h) (hh : h ≤ tl) (hz : z ≠ -1) : TrP (up (up τ 18 v z) 19 tl v) h := fun q w a b c d e => by
  rw [up_nk (up τ 18 v z) 19 19 v (by omega), up_ne _ _ _ _ (by decide), up_ne _ _ _ _ (by decide), up_ne _ _ _ _ (by decide)] at e
  have x := hp q w a b c d e
  rw [up_ne _ _ _ _ (by decide), up_if]
  by_cases y : w = v
  · rw [if_pos ⟨rfl, y⟩]; exact hz
  · rw [if_neg (fun u => y u.2)]; exact x
def wayC (σ : eS) : Prop := ∃ S : Int → Prop, S 18 ∧ ¬ S 19 ∧ ∀ v w, 0 ≤ v → v < 20 → 0 ≤ w → w < 20 → S v → ¬ S w → σ 17 (20 * v + w) ≤ 0
theorem t_Mo_isWay {σ : eS} : MtI shB M_Mo_isWay [vr 0] σ (fun σ' z => fr rgY σ σ' ∧ ((z = 1 ∧ σ' 18 19 ≠ -1 ∧ ∃ tl rk, tl ≤ 20 ∧ TrB σ' tl rk) ∨ (z = 0 ∧ wayC σ))) := by
  refine Mt.of okM_Mo_isWay (Nat.le_of_ble_eq_true rfl) (fun hk hg => ?_)
  refine ok_iconst 0 rfl rfl (by decide) (ok_ist1 1 rfl rfl rfl ?_)
  refine lpO2 (fun (k : Int) (_ : eS) => [some (vr 0), some (vi k), none, none]) (fun _ ρ => ρ) (fun k ρ => 0 ≤ k ∧ k ≤ 20 ∧ fr rgY σ ρ ∧ ∀ v, 0 ≤ v → v < k → ρ 18 v = -1) (fun k _ => (20 - k).toNat) ?_ 0 σ ⟨by omega, by omega, fr.rf, fun v a b => by omega⟩
  rintro k ρ ⟨k1, k2, f, hn⟩ ih
  refine ok_iload_n 2 rfl rfl rfl (ok_bipush 3 rfl rfl (by decide) (by decide) (ok_icmp_ge 4 21 rfl rfl rfl (fun h5 => ?_) (fun h5 => ?_)))
  · refine ok_iconst 12 rfl rfl (by decide) (ok_ist1 13 rfl rfl rfl (ok_aload_n 14 rfl rfl rfl (ok_getR 15 rfl rfl fl_X12_69 rfl rfl (ok_iconst 16 rfl rfl (by decide) (ok_bipush 17 rfl rfl (by decide) (by decide) (ok_iast 18 rfl rfl rfl (by first | omega | (simp [up_if]; omega) | (simp [up_if] at *; omega)) (ok_aload_n 19 rfl rfl rfl (ok_getR 20 rfl rfl fl_X12_66 rfl rfl (ok_bipush 21 rfl rfl (by decide) (by decide) (ok_bipush 22 rfl rfl (by decide) (by decide) (ok_iast 23 rfl rfl rfl (by first | omega | (simp [up_if]; omega) | (simp [up_if] at *; omega)) (ok_iconst 24 rfl rfl (by decide) (ok_ist2 25 rfl rfl rfl ?_)))))))))))))
    obtain ⟨τ, eτ⟩ : ∃ τ, τ = up (up ρ 19 0 18) 18 18 18 := ⟨_, rfl⟩
    have g : fr rgY σ τ := by rw [eτ]; exact fr_up (fr_up f (by simp [rgY])) (by simp [rgY])
    have e18 : ∀ v, 0 ≤ v → v < 20 → τ 18 v = if v = 18 then 18 else -1 := fun v a b => by
      rw [eτ, up_if]
      by_cases q : v = 18
      · rw [if_pos ⟨rfl, q⟩, if_pos q]
      · rw [if_neg (fun w => q w.2), if_neg q, up_ne _ _ _ _ (by decide)]; exact hn v a (by omega)
    have e0 : τ 19 0 = 18 := by rw [eτ]; simp [up_if]
    have onl : ∀ v, 0 ≤ v → v < 20 → τ 18 v ≠ -1 → v = 18 := fun v a b c => by
      by_cases q : v = 18
      · exact q
      · rw [e18 v a b, if_neg q] at c; exact absurd rfl c
    have H : TrB τ 1 (fun _ => 0) := by
      refine ⟨fun v a b c => ?_, by rw [e18 18 (by omega) (by omega)]; simp, fun q a b => ?_, ?_, by omega⟩
      · have := onl v a b c
        subst this
        rw [e18 18 (by omega) (by omega), if_pos rfl]
        exact ⟨by decide, by decide, by omega, by omega, fun w => absurd rfl w⟩
      · rw [show q = 0 by omega, e0, e18 18 (by omega) (by omega), if_pos rfl]; omega
      · unfold nD
        have : sm (fun v => if τ 18 v = -1 then (0 : Int) else 1) 20 = sm (fun v => if v = 18 then (1 : Int) else 0) 20 := sm_cg (fun v a b => by
          rw [e18 v a (by omega)]
          by_cases q : v = 18
          · rw [if_pos q, if_pos q, if_neg (by decide)]
          · rw [if_neg q, if_neg q, if_pos rfl])
        rw [this, sm_one _ (by omega) (by omega)]
    have O : TrO τ 1 := fun v a b c => ⟨0, by omega, by omega, by rw [e0, onl v a b c]⟩
    have P : TrP τ 0 := fun q w a b => by omega
    rw [← eτ]
    clear eτ e18 e0 onl
    refine lpO3 (fun (tl h : Int) (_ : eS) => [some (vr 0), some (vi tl), some (vi h), none]) (fun _ _ τ => τ) (fun tl h τ => 0 ≤ h ∧ h ≤ tl ∧ tl ≤ 20 ∧ fr rgY σ τ ∧ (∃ rk, TrB τ tl rk) ∧ TrO τ tl ∧ TrP τ h) (fun _ h _ => (20 - h).toNat) ?_ 1 0 τ ⟨by omega, by omega, by omega, g, ⟨_, H⟩, O, P⟩
    clear H O P g τ ih hn f k1 k2 h5 k ρ
    rintro tl h τ ⟨i1, i2, i3, g, ⟨rk, H⟩, O, P⟩ ih
    refine ok_iload_n 26 rfl rfl rfl (ok_iload_n 27 rfl rfl rfl (ok_icmp_ge 28 121 rfl rfl rfl (fun h44 => ?_) (fun h44 => ?_)))
    · refine ok_aload_n 71 rfl rfl rfl (ok_getR 72 rfl rfl fl_X12_66 rfl rfl (ok_bipush 73 rfl rfl (by decide) (by decide) (ok_iald 74 rfl rfl rfl (by first | omega | (simp [up_if]; omega) | (simp [up_if] at *; omega)) (ok_iconst 75 rfl rfl (by decide) (ok_icmp_eq 76 136 rfl rfl rfl (fun h129 => ?_) (fun h129 => ?_))))))
      · refine ok_iconst 79 rfl rfl (by decide) (ok_zret 80 rfl rfl rfl (by first | omega | (simp [up_if]; omega) | (simp [up_if] at *; omega)) ?_)
        refine ⟨_, rfl, g, ?_⟩
        first
          | exact Or.inl ⟨rfl, by omega, tl, rk, i3, H⟩
          | (refine Or.inr ⟨rfl, fun v => τ 18 v ≠ -1, by show τ 18 18 ≠ -1; rw [H.2.1]; decide, fun y => y (by omega), fun v w v1 v2 w1 w2 p q => ?_⟩
             obtain ⟨k, b1, b2, b3⟩ := O v v1 v2 p
             refine Int.not_lt.mp (fun y => q (P k w b1 (by omega) w1 w2 ?_))
             rw [b3, g 17 _ (by simp [rgY])]; exact y)
      · refine ok_iconst 77 rfl rfl (by decide) (ok_goto 78 137 rfl rfl rfl (ok_zret 80 rfl rfl rfl (by first | omega | (simp [up_if]; omega) | (simp [up_if] at *; omega)) ?_))
        refine ⟨_, rfl, g, ?_⟩
        first
          | exact Or.inl ⟨rfl, by omega, tl, rk, i3, H⟩
          | (refine Or.inr ⟨rfl, fun v => τ 18 v ≠ -1, by show τ 18 18 ≠ -1; rw [H.2.1]; decide, fun y => y (by omega), fun v w v1 v2 w1 w2 p q => ?_⟩
             obtain ⟨k, b1, b2, b3⟩ := O v v1 v2 p
             refine Int.not_lt.mp (fun y => q (P k w b1 (by omega) w1 w2 ?_))
             rw [b3, g 17 _ (by simp [rgY])]; exact y)
    · refine ok_iconst 29 rfl rfl (by decide) (ok_ist3 30 rfl rfl rfl ?_)
      have hl : h < tl := by omega
      refine lpO3 (fun (tl v : Int) (_ : eS) => [some (vr 0), some (vi tl), some (vi h), some (vi v)]) (fun _ _ τ => τ) (fun tl v τ => 0 ≤ v ∧ v ≤ 20 ∧ h < tl ∧ tl ≤ 20 ∧ fr rgY σ τ ∧ (∃ rk, TrB τ tl rk) ∧ TrO τ tl ∧ TrP τ h ∧ ∀ w, 0 ≤ w → w < v → 0 < τ 17 (20 * τ 19 h + w) → τ 18 w ≠ -1) (fun _ v _ => (20 - v).toNat) ?_ tl 0 τ ⟨by omega, by omega, hl, i3, g, ⟨rk, H⟩, O, P, fun w a b => by omega⟩
      clear H O P g i2 i3 hl h44 τ tl rk
      rintro tl v τ ⟨v1, v2, hl, i3, g, ⟨rk, H⟩, O, P, hw⟩ ih2
      have hq := H.2.2.1 h i1 hl
      refine ok_iload_n 31 rfl rfl rfl (ok_bipush 32 rfl rfl (by decide) (by decide) (ok_icmp_ge 33 115 rfl rfl rfl (fun h52 => ?_) (fun h52 => ?_)))
      · refine ok_inc2 69 rfl rfl rfl (by first | omega | (simp [up_if]; omega) | (simp [up_if] at *; omega)) (ok_goto 70 42 rfl rfl rfl ?_)
        refine ok_fg [some (vr 0), some (vi _), some (vi (h + 1)), none] ⟨rfl, rfl, rfl, trivial⟩ (ih tl (h + 1) τ ⟨by omega, by omega, i3, g, ⟨rk, H⟩, O, fun q w a b c d e => ?_⟩ (by omega))
        by_cases y : q = h
        · rw [y] at e; exact hw w c (by omega) e
        · exact P q w a (by omega) c d e
      · refine ok_aload_n 34 rfl rfl rfl (ok_getR 35 rfl rfl fl_X12_66 rfl rfl (ok_iload_n 36 rfl rfl rfl (ok_iald 37 rfl rfl rfl (by first | omega | (simp [up_if]; omega) | (simp [up_if] at *; omega)) (ok_iconst 38 rfl rfl (by decide) (ok_icmp_ne 39 109 rfl rfl rfl (fun h62 => ?_) (fun h62 => ?_))))))
        · refine ok_inc3 67 rfl rfl rfl (by first | omega | (simp [up_if]; omega) | (simp [up_if] at *; omega)) (ok_goto 68 49 rfl rfl rfl ?_)
          refine ih2 tl (v + 1) τ ⟨by omega, by omega, hl, i3, g, ⟨rk, H⟩, O, P, fun w a b c => ?_⟩ (by omega)
          by_cases q : w = v
          · rw [q]; exact h62
          · exact hw w a (by omega) c
        · refine ok_aload_n 40 rfl rfl rfl (ok_getR 41 rfl rfl fl_X12_63 rfl rfl (ok_bipush 42 rfl rfl (by decide) (by decide) (ok_aload_n 43 rfl rfl rfl (ok_getR 44 rfl rfl fl_X12_69 rfl rfl (ok_iload_n 45 rfl rfl rfl (ok_iald 46 rfl rfl rfl (by first | omega | (simp [up_if]; omega) | (simp [up_if] at *; omega)) (ok_imul 47 rfl rfl (by first | omega | (simp [up_if]; omega) | (simp [up_if] at *; omega)) (ok_iload_n 48 rfl rfl rfl (ok_iadd 49 rfl rfl (by first | omega | (simp [up_if]; omega) | (simp [up_if] at *; omega)) (ok_iald 50 rfl rfl rfl (by first | omega | (simp [up_if]; omega) | (simp [up_if] at *; omega)) (ok_if_gt 51 87 rfl rfl rfl (fun h81 => ?_) (fun h81 => ?_))))))))))))
          · obtain ⟨t1, rk', H'⟩ := TrB_s (h := h) (v := v) H ⟨i1, hl⟩ ⟨v1, by omega⟩ (by omega) (by omega)
            refine ok_aload_n 53 rfl rfl rfl (ok_getR 54 rfl rfl fl_X12_66 rfl rfl (ok_iload_n 55 rfl rfl rfl (ok_aload_n 56 rfl rfl rfl (ok_getR 57 rfl rfl fl_X12_69 rfl rfl (ok_iload_n 58 rfl rfl rfl (ok_iald 59 rfl rfl rfl (by first | omega | (simp [up_if]; omega) | (simp [up_if] at *; omega)) (ok_iast 60 rfl rfl rfl (by first | omega | (simp [up_if]; omega) | (simp [up_if] at *; omega)) (ok_aload_n 61 rfl rfl rfl (ok_getR 62 rfl rfl fl_X12_69 rfl rfl (ok_iload_n 63 rfl rfl rfl (ok_iload_n 64 rfl rfl rfl (ok_iast 65 rfl rfl rfl (by first | omega | (simp [up_if]; omega) | (simp [up_if] at *; omega)) (ok_inc1 66 rfl rfl rfl (by first | omega | (simp [up_if]; omega) | (simp [up_if] at *; omega)) (ok_inc3 67 rfl rfl rfl (by first | omega | (simp [up_if]; omega) | (simp [up_if] at *; omega)) (ok_goto 68 49 rfl rfl rfl ?_)))))))))))))))
            refine ih2 (tl + 1) (v + 1) _ ⟨by omega, by omega, by omega, by omega, fr_up (fr_up g (by simp [rgY])) (by simp [rgY]), ⟨rk', H'⟩, TrO_s O (by omega), TrP_s P (by omega) (by omega), fun w a b c => ?_⟩ (by omega)
            rw [up_nk (up τ 18 v (τ 19 h)) 19 19 v (by omega), up_ne _ _ _ _ (by decide), up_ne _ _ _ _ (by decide), up_ne _ _ _ _ (by decide)] at c
            rw [up_ne _ _ _ _ (by decide), up_if]
            by_cases q : w = v
            · rw [if_pos ⟨rfl, q⟩]; omega
            · rw [if_neg (fun u => q u.2)]; exact hw w a (by omega) c
          · refine ok_goto 52 109 rfl rfl rfl (ok_inc3 67 rfl rfl rfl (by first | omega | (simp [up_if]; omega) | (simp [up_if] at *; omega)) (ok_goto 68 49 rfl rfl rfl ?_))
            refine ih2 tl (v + 1) τ ⟨by omega, by omega, hl, i3, g, ⟨rk, H⟩, O, P, fun w a b c => ?_⟩ (by omega)
            by_cases q : w = v
            · rw [q] at c; omega
            · exact hw w a (by omega) c
  · refine ok_aload_n 5 rfl rfl rfl (ok_getR 6 rfl rfl fl_X12_66 rfl rfl (ok_iload_n 7 rfl rfl rfl (ok_iconst 8 rfl rfl (by decide) (ok_iast 9 rfl rfl rfl (by first | omega | (simp [up_if]; omega) | (simp [up_if] at *; omega)) (ok_inc1 10 rfl rfl rfl (by first | omega | (simp [up_if]; omega) | (simp [up_if] at *; omega)) (ok_goto 11 2 rfl rfl rfl ?_))))))
    refine ih (k + 1) _ ⟨by omega, by omega, fr_up f (by simp [rgY]), lt_ext (fun v a b => ?_) ?_⟩ (by omega)
    · rw [up_nk _ _ _ _ (by omega)]; exact hn v a b
    · rw [up_same]
/-- what an edge lays -/
theorem t_Mo_edge {σ : eS} {f t lo hi B : Int} (hf : 0 ≤ f ∧ f ≤ 17) (ht : 0 ≤ t ∧ t ≤ 17) (hl : 0 ≤ lo ∧ lo ≤ 64) (hh : 0 ≤ hi ∧ hi ≤ 64) (hB : capB σ B) (hB1 : 0 ≤ B ∧ B ≤ 1000000) : MtV shB M_Mo_edge [vr 0, vi f, vi t, vi lo, vi hi] σ (fun σ' => fr rgC σ σ' ∧ capB σ' (B + 192) ∧ ∀ k, σ' 17 k = σ 17 k + (if k = 20 * f + t then hi - lo else 0) + (if k = 360 + t then lo else 0) + (if k = 20 * f + 19 then lo else 0)) := by
  refine Mt.of okM_Mo_edge (Nat.le_of_ble_eq_true rfl) (fun hk hg => ?_)
  have c1 := hB (20 * f + t) (by omega) (by omega)
  have h1 := capB_up (d := 64) (k := 20 * f + t) (z := σ 17 (20 * f + t) + (hi - lo)) hB (by omega) ⟨by omega, by omega⟩
  obtain ⟨τ, eτ⟩ : ∃ τ, τ = up σ 17 (20 * f + t) (σ 17 (20 * f + t) + (hi - lo)) := ⟨_, rfl⟩
  rw [← eτ] at h1
  have c2 := h1 (360 + t) (by omega) (by omega)
  have h2 := capB_up (d := 64) (k := 360 + t) (z := τ 17 (360 + t) + lo) h1 (by omega) ⟨by omega, by omega⟩
  obtain ⟨υ, eυ⟩ : ∃ υ, υ = up τ 17 (360 + t) (τ 17 (360 + t) + lo) := ⟨_, rfl⟩
  rw [← eυ] at h2
  have c3 := h2 (20 * f + 19) (by omega) (by omega)
  have h3 := capB_up (d := 64) (k := 20 * f + 19) (z := υ 17 (20 * f + 19) + lo) h2 (by omega) ⟨by omega, by omega⟩
  have f1 : fr rgC σ τ := by rw [eτ]; exact fr_up fr.rf rfl
  have f2 : fr rgC σ υ := by rw [eυ]; exact fr_up f1 rfl
  have one : ∀ (ρ : eS) (p d k : Int), up ρ 17 p (ρ 17 p + d) 17 k = ρ 17 k + if k = p then d else 0 := fun ρ p d k => by
    by_cases q : k = p
    · rw [if_pos q, q, up_same]
    · rw [if_neg q, up_nk _ _ _ _ q, Int.add_zero]
  refine ok_aload_n 0 rfl rfl rfl (ok_getR 1 rfl rfl fl_X12_63 rfl rfl (ok_bipush 2 rfl rfl (by decide) (by decide) (ok_iload_n 3 rfl rfl rfl (ok_imul 4 rfl rfl (by first | omega | (simp [up_if]; omega) | (simp [up_if] at *; omega)) (ok_iload_n 5 rfl rfl rfl (ok_iadd 6 rfl rfl (by first | omega | (simp [up_if]; omega) | (simp [up_if] at *; omega)) (ok_dup2 7 rfl rfl ⟨rfl, rfl⟩ (ok_iald 8 rfl rfl rfl (by first | omega | (simp [up_if]; omega) | (simp [up_if] at *; omega)) (ok_iload 9 rfl rfl rfl (ok_iload_n 10 rfl rfl rfl (ok_isub 11 rfl rfl (by first | omega | (simp [up_if]; omega) | (simp [up_if] at *; omega)) (ok_iadd 12 rfl rfl (by first | omega | (simp [up_if]; omega) | (simp [up_if] at *; omega)) (ok_iast 13 rfl rfl rfl (by first | omega | (simp [up_if]; omega) | (simp [up_if] at *; omega)) ?_)))))))))))))
  rw [← eτ]
  refine ok_aload_n 14 rfl rfl rfl (ok_getR 15 rfl rfl fl_X12_63 rfl rfl (ok_sipush 16 rfl rfl (by decide) (by decide) (ok_iload_n 17 rfl rfl rfl (ok_iadd 18 rfl rfl (by first | omega | (simp [up_if]; omega) | (simp [up_if] at *; omega)) (ok_dup2 19 rfl rfl ⟨rfl, rfl⟩ (ok_iald 20 rfl rfl rfl (by first | omega | (simp [up_if]; omega) | (simp [up_if] at *; omega)) (ok_iload_n 21 rfl rfl rfl (ok_iadd 22 rfl rfl (by first | omega | (simp [up_if]; omega) | (simp [up_if] at *; omega)) (ok_iast 23 rfl rfl rfl (by first | omega | (simp [up_if]; omega) | (simp [up_if] at *; omega)) ?_)))))))))
  rw [← eυ]
  refine ok_aload_n 24 rfl rfl rfl (ok_getR 25 rfl rfl fl_X12_63 rfl rfl (ok_bipush 26 rfl rfl (by decide) (by decide) (ok_iload_n 27 rfl rfl rfl (ok_imul 28 rfl rfl (by first | omega | (simp [up_if]; omega) | (simp [up_if] at *; omega)) (ok_bipush 29 rfl rfl (by decide) (by decide) (ok_iadd 30 rfl rfl (by first | omega | (simp [up_if]; omega) | (simp [up_if] at *; omega)) (ok_dup2 31 rfl rfl ⟨rfl, rfl⟩ (ok_iald 32 rfl rfl rfl (by first | omega | (simp [up_if]; omega) | (simp [up_if] at *; omega)) (ok_iload_n 33 rfl rfl rfl (ok_iadd 34 rfl rfl (by first | omega | (simp [up_if]; omega) | (simp [up_if] at *; omega)) (ok_iast 35 rfl rfl rfl (by first | omega | (simp [up_if]; omega) | (simp [up_if] at *; omega)) (ok_vret 36 rfl rfl rfl ?_))))))))))))
  refine ⟨rfl, fr_up f2 rfl, capB_mono h3 (by omega), fun k => ?_⟩
  rw [one, eυ, one, eτ, one]
end
section
/-! ROUNDING, the reference: what the flow through the net says of the ring, purely -/
def netC (x d : Int → Int → Int) (a b : Int) : Int := if a < 18 ∧ b < 18 then d a b else if a = 18 ∧ b < 18 then sm (fun v => x v b) 18 else if a < 18 ∧ b = 19 then sm (fun w => x a w) 18 else 0
def netI (C K : Int → Int → Int) : Prop := (∀ a b, 0 ≤ a → a < 20 → 0 ≤ b → b < 20 → 0 ≤ K a b) ∧ (∀ a b, 0 ≤ a → a < 20 → 0 ≤ b → b < 20 → K a b + K b a = C a b + C b a) ∧ ∀ v, 0 ≤ v → v < 18 → sm (fun b => K v b) 20 = sm (fun b => C v b) 20
theorem sm20 (f : Int → Int) : sm f 20 = sm f 18 + f 18 + f 19 := rfl
theorem sm_as {g : Int → Int → Int} {n : Nat} (h : ∀ a b, 0 ≤ a → a < (n : Int) → 0 ≤ b → b < (n : Int) → g a b = -g b a) : sm (fun a => sm (fun b => g a b) n) n = 0 := by
  have e : sm (fun a => sm (fun b => g a b) n) n = sm (fun a => sm (fun b => (-1) * g a b) n) n := by
    rw [sm_sw g n n]
    exact sm_cg (fun a p q => sm_cg (fun b r s => by rw [h b a r s p q]; omega))
  have e2 : sm (fun a => sm (fun b => (-1) * g a b) n) n = -1 * sm (fun a => sm (fun b => g a b) n) n := by
    rw [← sm_ml]
    exact sm_cg (fun a _ _ => sm_ml (-1) (fun b => g a b) n)
  omega
section K33
variable {L H K Y : Int → Int → Int}
theorem net_no {S : Int → Prop} (hI : netI (netC L (fun a b => H a b - L a b)) K) (s18 : S 18) (s19 : ¬ S 19) (hS : ∀ v w, 0 ≤ v → v < 20 → 0 ≤ w → w < 20 → S v → ¬ S w → K v w ≤ 0) (hY : cirN Y) (hb : ∀ v w, 0 ≤ v → v < 18 → 0 ≤ w → w < 18 → L v w ≤ Y v w ∧ Y v w ≤ H v w) : sm (fun b => K 18 b) 20 ≤ 0 := by
  obtain ⟨k0, k1, k2⟩ := hI
  obtain ⟨C, eC⟩ : ∃ C, C = netC L (fun a b => H a b - L a b) := ⟨_, rfl⟩
  rw [← eC] at k1 k2
  obtain ⟨s, es⟩ : ∃ s : Int → Int, s = fun v => ind (S v) := ⟨_, rfl⟩
  have sb : ∀ v, (S v → s v = 1) ∧ (¬ S v → s v = 0) := fun v => by rw [es]; exact ⟨fun q => ind_t q, fun q => ind_f q⟩
  have w18 := (sb 18).1 s18
  have w19 := (sb 19).2 s19
  -- the net's own count
  have A : sm (fun a => s a * sm (fun b => C a b - K a b) 20) 20 = sm (fun b => C 18 b) 20 - sm (fun b => K 18 b) 20 := by
    rw [sm20, w18, w19, sm_cg (n := 18) (g := fun _ => (0 : Int)) (fun v a b => by
      rw [sm_sub, k2 v a (by omega), Int.sub_self, Int.mul_zero]), sm_z, sm_sub (fun b => C 18 b) (fun b => K 18 b)]
    omega
  have B : sm (fun a => sm (fun b => s a * s b * (C a b - K a b)) 20) 20 = 0 := sm_as (fun a b p q r t => by
    have e := k1 a b p (by omega) r (by omega)
    rw [show C b a - K b a = -(C a b - K a b) by omega, Int.mul_neg, Int.neg_neg, Int.mul_comm (s b) (s a)])
  have D : sm (fun a => s a * sm (fun b => C a b - K a b) 20) 20 = sm (fun a => sm (fun b => s a * (1 - s b) * C a b) 20) 20 := by
    have e1 : sm (fun a => s a * sm (fun b => C a b - K a b) 20) 20 = sm (fun a => sm (fun b => s a * (1 - s b) * C a b) 20 + sm (fun b => s a * s b * (C a b - K a b)) 20) 20 := sm_cg (fun a p q => by
      rw [← sm_ml, ← sm_ad]
      refine sm_cg (fun b r t => ?_)
      by_cases u : S a
      · by_cases v : S b
        · rw [(sb a).1 u, (sb b).1 v]; omega
        · have z := hS a b p (by omega) r (by omega) u v
          have z2 := k0 a b p (by omega) r (by omega)
          rw [(sb a).1 u, (sb b).2 v]; omega
      · rw [(sb a).2 u]; omega)
    rw [e1, sm_ad, B, Int.add_zero]
  -- what the net's first numbers come to
  have c1 : ∀ b, 0 ≤ b → b < 18 → C 18 b = sm (fun v => L v b) 18 := fun b p q => by rw [eC]; unfold netC; rw [if_neg (by omega), if_pos (by omega)]
  have c2 : C 18 18 = 0 ∧ C 18 19 = 0 := by rw [eC]; unfold netC; rw [if_neg (by omega), if_neg (by omega), if_neg (by omega), if_neg (by omega), if_neg (by omega), if_neg (by omega)]; exact ⟨rfl, rfl⟩
  have c3 : ∀ a b, 0 ≤ a → a < 18 → 0 ≤ b → b < 18 → C a b = H a b - L a b := fun a b p q r t => by rw [eC]; unfold netC; rw [if_pos ⟨q, t⟩]
  have c4 : ∀ a, 0 ≤ a → a < 18 → C a 18 = 0 ∧ C a 19 = sm (fun w => L a w) 18 := fun a p q => by rw [eC]; unfold netC; rw [if_neg (by omega), if_neg (by omega), if_neg (by omega), if_neg (by omega), if_neg (by omega), if_pos (by omega)]; exact ⟨rfl, rfl⟩
  have E : sm (fun b => C 18 b) 20 = sm (fun b => sm (fun v => L v b) 18) 18 := by
    rw [sm20, c2.1, c2.2, sm_cg (n := 18) (fun b p q => c1 b p (by omega))]; omega
  have F : sm (fun a => sm (fun b => s a * (1 - s b) * C a b) 20) 20 = sm (fun a => sm (fun b => s a * (1 - s b) * (H a b - L a b)) 18) 18 + sm (fun a => s a * sm (fun w => L a w) 18) 18 + sm (fun b => (1 - s b) * sm (fun v => L v b) 18) 18 := by
    rw [sm20, ← sm_ad]
    have f1 : sm (fun a => sm (fun b => s a * (1 - s b) * C a b) 20) 18 = sm (fun a => sm (fun b => s a * (1 - s b) * (H a b - L a b)) 18 + s a * sm (fun w => L a w) 18) 18 := sm_cg (fun a p q => by
      rw [sm20, (c4 a p (by omega)).1, (c4 a p (by omega)).2, w19, Int.sub_zero, Int.mul_one, sm_cg (n := 18) (fun b r t => by rw [c3 a b p (by omega) r (by omega)])]
      omega)
    have f2 : sm (fun b => s 18 * (1 - s b) * C 18 b) 20 = sm (fun b => (1 - s b) * sm (fun v => L v b) 18) 18 := by
      rw [sm20, c2.1, c2.2, w18, Int.mul_zero, Int.mul_zero, Int.add_zero, Int.add_zero]
      exact sm_cg (fun b p q => by rw [c1 b p (by omega), Int.one_mul])
    have f3 : sm (fun b => s 19 * (1 - s b) * C 19 b) 20 = 0 := by
      rw [sm_cg (g := fun _ => (0 : Int)) (fun b p q => by rw [w19]; omega), sm_z]
    rw [f1, f2, f3]; omega
  have G1 : sm (fun b => (1 - s b) * sm (fun v => L v b) 18) 18 = sm (fun b => sm (fun v => L v b) 18) 18 - sm (fun b => s b * sm (fun v => L v b) 18) 18 := by
    rw [← sm_sub]
    exact sm_cg (fun b _ _ => by rw [Int.sub_mul, Int.one_mul])
  have G2 : sm (fun b => s b * sm (fun v => L v b) 18) 18 = sm (fun a => sm (fun b => s b * L a b) 18) 18 := by
    rw [sm_sw (fun a b => s b * L a b) 18 18]
    exact sm_cg (fun b _ _ => (sm_ml (s b) (fun v => L v b) 18).symm)
  have G3 : sm (fun a => s a * sm (fun w => L a w) 18) 18 = sm (fun a => sm (fun b => s a * L a b) 18) 18 := sm_cg (fun a _ _ => (sm_ml (s a) (fun w => L a w) 18).symm)
  have Hh : sm (fun b => K 18 b) 20 = sm (fun a => sm (fun b => s b * L a b - s a * L a b - s a * (1 - s b) * (H a b - L a b)) 18) 18 := by
    have q1 : sm (fun a => sm (fun b => s b * L a b - s a * L a b - s a * (1 - s b) * (H a b - L a b)) 18) 18 = sm (fun a => sm (fun b => s b * L a b) 18) 18 - sm (fun a => sm (fun b => s a * L a b) 18) 18 - sm (fun a => sm (fun b => s a * (1 - s b) * (H a b - L a b)) 18) 18 := by
      rw [← sm_sub, ← sm_sub]
      exact sm_cg (fun a _ _ => by rw [← sm_sub, ← sm_sub])
    rw [q1, ← G2, ← G3]
    omega
  have Z := cir_cut hY s
  have le : sm (fun a => sm (fun b => s b * L a b - s a * L a b - s a * (1 - s b) * (H a b - L a b)) 18) 18 ≤ sm (fun a => sm (fun b => (-1) * ((s a - s b) * Y a b)) 18) 18 := sm_le2 (fun a p q => sm_le2 (fun b r t => by
    have y := hb a b p (by omega) r (by omega)
    by_cases u : S a <;> by_cases v : S b
    · rw [(sb a).1 u, (sb b).1 v]; omega
    · rw [(sb a).1 u, (sb b).2 v]; omega
    · rw [(sb a).2 u, (sb b).1 v]; omega
    · rw [(sb a).2 u, (sb b).2 v]; omega))
  have z2 : sm (fun a => sm (fun b => (-1) * ((s a - s b) * Y a b)) 18) 18 = -1 * sm (fun a => sm (fun b => (s a - s b) * Y a b) 18) 18 := by
    rw [← sm_ml]
    exact sm_cg (fun a _ _ => sm_ml (-1) (fun b => (s a - s b) * Y a b) 18)
  rw [Hh]
  omega
theorem sm_z0 {f : Int → Int} {n : Nat} (h : ∀ k : Int, 0 ≤ k → k < n → 0 ≤ f k) (h0 : sm f n ≤ 0) : ∀ k : Int, 0 ≤ k → k < n → f k = 0 := fun k a b => by
  have x := sm_le h k a b
  have y := h k a b
  omega
/-- nothing is wanting: a ring that keeps the bounds -/
theorem net_yes {ch : Int → Int → Prop} (hI : netI (netC L (fun a b => H a b - L a b)) K) (hw : sm (fun b => K 18 b) 20 ≤ 0) (h0 : ∀ v w, ¬ ch v w → L v w = 0 ∧ H v w = 0) (h1 : ∀ v w, ch v w → ¬ ch w v) : ∃ Y, cirN Y ∧ ∀ v w, 0 ≤ v → v < 18 → 0 ≤ w → w < 18 → L v w ≤ Y v w ∧ Y v w ≤ H v w := by
  obtain ⟨k0, k1, k2⟩ := hI
  obtain ⟨C, eC⟩ : ∃ C, C = netC L (fun a b => H a b - L a b) := ⟨_, rfl⟩
  rw [← eC] at k1 k2
  have c1 : ∀ b, 0 ≤ b → b < 18 → C 18 b = sm (fun v => L v b) 18 := fun b p q => by rw [eC]; unfold netC; rw [if_neg (by omega), if_pos (by omega)]
  have c2 : C 18 18 = 0 ∧ C 18 19 = 0 ∧ C 19 18 = 0 ∧ C 19 19 = 0 := by
    rw [eC]; unfold netC
    refine ⟨?_, ?_, ?_, ?_⟩ <;> rw [if_neg (by omega), if_neg (by omega), if_neg (by omega)]
  have c3 : ∀ a b, 0 ≤ a → a < 18 → 0 ≤ b → b < 18 → C a b = H a b - L a b := fun a b p q r t => by rw [eC]; unfold netC; rw [if_pos ⟨q, t⟩]
  have c4 : ∀ a, 0 ≤ a → a < 18 → C a 18 = 0 ∧ C a 19 = sm (fun w => L a w) 18 ∧ C 19 a = 0 := fun a p q => by
    rw [eC]; unfold netC
    refine ⟨?_, ?_, ?_⟩
    · rw [if_neg (by omega), if_neg (by omega), if_neg (by omega)]
    · rw [if_neg (by omega), if_neg (by omega), if_pos (by omega)]
    · rw [if_neg (by omega), if_neg (by omega), if_neg (by omega)]
  have z18 := sm_z0 (f := fun b => K 18 b) (n := 20) (fun b p q => k0 18 b (by omega) (by omega) p (by omega)) hw
  have back : ∀ v, 0 ≤ v → v < 18 → K v 18 = sm (fun u => L u v) 18 := fun v p q => by
    have a := k1 v 18 p (by omega) (by omega) (by omega)
    have b := z18 v p (by omega)
    rw [c1 v p q, (c4 v p q).1] at a
    (try dsimp only at b)
    omega
  have tot : sm (fun a => sm (fun b => K a b) 20) 20 = sm (fun a => sm (fun b => C a b) 20) 20 := by
    have x := sm_as (g := fun a b => C a b - K a b) (n := 20) (fun a b p q r t => by have := k1 a b p (by omega) r (by omega); (try dsimp only); omega)
    have e : sm (fun a => sm (fun b => C a b - K a b) 20) 20 = sm (fun a => sm (fun b => C a b) 20) 20 - sm (fun a => sm (fun b => K a b) 20) 20 := by
      rw [← sm_sub]
      exact sm_cg (fun a _ _ => sm_sub _ _ 20)
    omega
  have e19 : sm (fun b => C 19 b) 20 = 0 := by
    rw [sm20, c2.2.2.1, c2.2.2.2, sm_cg (n := 18) (g := fun _ => (0 : Int)) (fun b p q => (c4 b p (by omega)).2.2), sm_z]; rfl
  have e18 : sm (fun b => C 18 b) 20 = sm (fun b => sm (fun v => L v b) 18) 18 := by
    rw [sm20, c2.1, c2.2.1, sm_cg (n := 18) (fun b p q => c1 b p (by omega))]; omega
  have k18 : sm (fun b => K 18 b) 20 = 0 := by
    have := sm_nx (f := fun b => K 18 b) (n := 20) (fun b p q => k0 18 b (by omega) (by omega) p (by omega))
    omega
  have T19 : sm (fun b => K 19 b) 20 = sm (fun b => sm (fun v => L v b) 18) 18 := by
    rw [sm20 (fun a => sm (fun b => K a b) 20), sm20 (fun a => sm (fun b => C a b) 20), sm_cg (n := 18) (fun v p q => k2 v p (by omega)), e19, e18, k18] at tot
    omega
  have p18 := k1 18 19 (by omega) (by omega) (by omega) (by omega)
  have p19 := k1 19 19 (by omega) (by omega) (by omega) (by omega)
  have q18 := k0 18 19 (by omega) (by omega) (by omega) (by omega)
  have q19 := k0 19 18 (by omega) (by omega) (by omega) (by omega)
  rw [c2.2.1, c2.2.2.1] at p18
  rw [c2.2.2.2] at p19
  have U : sm (fun v => K v 19) 18 = 0 := by
    have e : sm (fun b => K 19 b) 18 = sm (fun v => sm (fun w => L v w) 18 - K v 19) 18 := sm_cg (fun v p q => by
      have a := k1 v 19 p (by omega) (by omega) (by omega)
      rw [(c4 v p (by omega)).2.1, (c4 v p (by omega)).2.2] at a
      omega)
    rw [sm20, e, sm_sub, sm_sw (fun v w => L v w) 18 18] at T19
    omega
  have out0 := sm_z0 (f := fun v => K v 19) (n := 18) (fun v p q => k0 v 19 p (by omega) (by omega) (by omega)) (by omega)
  have bal : ∀ v, 0 ≤ v → v < 18 → sm (fun w => (H v w - L v w) - K v w) 18 = sm (fun u => L u v) 18 - sm (fun w => L v w) 18 := fun v p q => by
    have a := k2 v p q
    have o := out0 v p (by omega)
    (try dsimp only at o)
    rw [sm20, sm20, back v p q, o, (c4 v p q).1, (c4 v p q).2.1] at a
    rw [sm_sub (fun w => H v w - L v w) (fun w => K v w), ← sm_cg (n := 18) (f := fun w => C v w) (fun w r t => c3 v w p q r (by omega))]
    omega
  have up : ∀ v w, 0 ≤ v → v < 18 → 0 ≤ w → w < 18 → ch v w → K v w ≤ H v w - L v w ∧ 0 ≤ K v w := fun v w p q r t c => by
    have a := k1 v w p (by omega) r (by omega)
    have b := h0 w v (h1 v w c)
    have d := k0 w v r (by omega) p (by omega)
    rw [c3 v w p q r t, c3 w v r t p q] at a
    exact ⟨by omega, k0 v w p (by omega) r (by omega)⟩
  refine ⟨fun v w => @ite Int (ch v w) (Classical.propDecidable _) (L v w + (H v w - L v w) - K v w) 0, fun v p q => ?_, fun v w p q r t => ?_⟩
  · unfold exN
    rw [← sm_sub, sm_cg (g := fun w => (L v w - L w v) + ((H v w - L v w) - K v w)) (fun w r t => ?_), sm_ad, bal v p q, sm_sub (fun w => L v w) (fun w => L w v)]
    · omega
    · have a := k1 v w p (by omega) r (by omega)
      rw [c3 v w p q r (by omega), c3 w v r (by omega) p q] at a
      have b1 := k0 v w p (by omega) r (by omega)
      have b2 := k0 w v r (by omega) p (by omega)
      (try dsimp only)
      by_cases u : ch v w
      · have z := h0 w v (h1 v w u)
        rw [if_pos u, if_neg (h1 v w u)]
        omega
      · have z := h0 v w u
        rw [if_neg u]
        by_cases x : ch w v
        · rw [if_pos x]; omega
        · have z' := h0 w v x
          rw [if_neg x]; omega
  · (try dsimp only)
    by_cases u : ch v w
    · have := up v w p q r t u
      rw [if_pos u]; omega
    · have := h0 v w u
      rw [if_neg u]; omega
end K33
end
section
/-! ROUNDING, the reference: isKept says whether there is a ring that keeps the bounds -/
def kcp (ρ : eS) (a b : Int) : Int := ρ 17 (20 * a + b)
def NK (ρ : eS) (x d : Int → Int → Int) : Prop := ∀ a b, 0 ≤ a → a < 20 → 0 ≤ b → b < 20 → kcp ρ a b = netC x d a b
def ad1 (x : Int → Int → Int) (f t z : Int) : Int → Int → Int := fun v w => if v = f ∧ w = t then x v w + z else x v w
theorem NK_s {ρ τ : eS} {x d : Int → Int → Int} {f t lo hi : Int} (hf : 0 ≤ f ∧ f ≤ 17) (ht : 0 ≤ t ∧ t ≤ 17) (h : NK ρ x d) (e : ∀ k, τ 17 k = ρ 17 k + (if k = 20 * f + t then hi - lo else 0) + (if k = 360 + t then lo else 0) + (if k = 20 * f + 19 then lo else 0)) : NK τ (ad1 x f t lo) (ad1 d f t (hi - lo)) := fun a b a1 a2 b1 b2 => by
  have q := h a b a1 a2 b1 b2
  unfold kcp at q ⊢
  rw [e, q]
  unfold netC
  by_cases c1 : a < 18 ∧ b < 18
  · rw [if_pos c1, if_pos c1, if_neg (show ¬ 20 * a + b = 360 + t by omega), if_neg (show ¬ 20 * a + b = 20 * f + 19 by omega)]
    unfold ad1
    by_cases c : a = f ∧ b = t
    · rw [if_pos c, if_pos (show 20 * a + b = 20 * f + t by omega)]; omega
    · rw [if_neg c, if_neg (show ¬ 20 * a + b = 20 * f + t by omega)]; omega
  · rw [if_neg c1, if_neg c1, if_neg (show ¬ 20 * a + b = 20 * f + t by omega)]
    by_cases c2 : a = 18 ∧ b < 18
    · rw [if_pos c2, if_pos c2, if_neg (show ¬ 20 * a + b = 20 * f + 19 by omega)]
      by_cases c : b = t
      · rw [if_pos (show 20 * a + b = 360 + t by omega)]
        have := sm_pt (f := fun v => x v b) (g := fun v => ad1 x f t lo v b) (x := f) (d := lo) (n := 18) hf.1 (by omega) (by unfold ad1; (try dsimp only); rw [if_pos ⟨rfl, c⟩]) (fun k p r s => by unfold ad1; (try dsimp only); rw [if_neg (fun u => s u.1)])
        rw [this]; omega
      · rw [if_neg (show ¬ 20 * a + b = 360 + t by omega), sm_cg (n := 18) (f := fun v => ad1 x f t lo v b) (g := fun v => x v b) (fun k p r => by unfold ad1; (try dsimp only); rw [if_neg (fun u => c u.2)])]; omega
    · rw [if_neg c2, if_neg c2, if_neg (show ¬ 20 * a + b = 360 + t by omega)]
      by_cases c3 : a < 18 ∧ b = 19
      · rw [if_pos c3, if_pos c3]
        by_cases c : a = f
        · rw [if_pos (show 20 * a + b = 20 * f + 19 by omega)]
          have := sm_pt (f := fun w => x a w) (g := fun w => ad1 x f t lo a w) (x := t) (d := lo) (n := 18) ht.1 (by omega) (by unfold ad1; (try dsimp only); rw [if_pos ⟨c, rfl⟩]) (fun k p r s => by unfold ad1; (try dsimp only); rw [if_neg (fun u => s u.2)])
          rw [this]; omega
        · rw [if_neg (show ¬ 20 * a + b = 20 * f + 19 by omega), sm_cg (n := 18) (f := fun w => ad1 x f t lo a w) (g := fun w => x a w) (fun k p r => by unfold ad1; (try dsimp only); rw [if_neg (fun u => c u.1)])]; omega
      · rw [if_neg c3, if_neg c3, if_neg (show ¬ 20 * a + b = 20 * f + 19 by omega)]; omega
theorem NK_cg {ρ : eS} {x d x' d' : Int → Int → Int} (h : NK ρ x d) (e : ∀ v w, 0 ≤ v → v < 18 → 0 ≤ w → w < 18 → x v w = x' v w ∧ d v w = d' v w) : NK ρ x' d' := fun a b a1 a2 b1 b2 => by
  rw [h a b a1 a2 b1 b2]
  unfold netC
  by_cases c1 : a < 18 ∧ b < 18
  · rw [if_pos c1, if_pos c1]; exact (e a b a1 c1.1 b1 c1.2).2
  · rw [if_neg c1, if_neg c1]
    by_cases c2 : a = 18 ∧ b < 18
    · rw [if_pos c2, if_pos c2]; exact sm_cg (fun v p q => (e v b p (by omega) b1 c2.2).1)
    · rw [if_neg c2, if_neg c2]
      by_cases c3 : a < 18 ∧ b = 19
      · rw [if_pos c3, if_pos c3]; exact sm_cg (fun w p q => (e a w a1 c3.1 p (by omega)).1)
      · rw [if_neg c3, if_neg c3]
/-- the edges laid so far -/
def NKd (L H : Int → Int → Int) (D : Int → Int → Prop) (ρ : eS) : Prop := ∃ x d, NK ρ x d ∧ ∀ v w, 0 ≤ v → v < 18 → 0 ≤ w → w < 18 → (D v w → x v w = L v w ∧ d v w = H v w - L v w) ∧ (¬ D v w → x v w = 0 ∧ d v w = 0)
theorem NKd_s {L H : Int → Int → Int} {D D' : Int → Int → Prop} {ρ τ : eS} {f t lo hi : Int} (hf : 0 ≤ f ∧ f ≤ 17) (ht : 0 ≤ t ∧ t ≤ 17) (h : NKd L H D ρ) (nd : ¬ D f t) (el : lo = L f t) (eh : hi = H f t) (e : ∀ k, τ 17 k = ρ 17 k + (if k = 20 * f + t then hi - lo else 0) + (if k = 360 + t then lo else 0) + (if k = 20 * f + 19 then lo else 0)) (hD : ∀ v w, D' v w ↔ (D v w ∨ (v = f ∧ w = t))) : NKd L H D' τ := by
  obtain ⟨x, d, h1, h2⟩ := h
  refine ⟨_, _, NK_s hf ht h1 e, fun v w v1 v2 w1 w2 => ?_⟩
  unfold ad1
  obtain ⟨a1, a2⟩ := h2 v w v1 v2 w1 w2
  rw [hD]
  by_cases c : v = f ∧ w = t
  · rw [if_pos c, if_pos c]
    refine ⟨fun _ => ?_, fun u => absurd (Or.inr c) u⟩
    have z := a2 (by rw [c.1, c.2]; exact nd)
    rw [z.1, z.2, c.1, c.2]; omega
  · rw [if_neg c, if_neg c]
    exact ⟨fun u => by rcases u with u | u; exact a1 u; exact absurd u c, fun u => a2 (fun y => u (Or.inl y))⟩
/-- an arc of the net, one less there and one more back -/
theorem ks_up {υ : eS} {v w a : Int} (hv : 0 ≤ v ∧ v < 20) (hw : 0 ≤ w ∧ w < 20) (hne : v ≠ w) (ha : 0 ≤ a ∧ a < 20) {A B : eS} (eA : A = up υ 17 (20 * w + v) (υ 17 (20 * w + v) - 1)) (eB : B = up A 17 (20 * v + w) (A 17 (20 * v + w) + 1)) : (∀ b, 0 ≤ b → b < 20 → kcp B a b = kcp υ a b + (if a = v ∧ b = w then 1 else 0) - (if a = w ∧ b = v then 1 else 0)) ∧ sm (fun b => kcp B a b) 20 = sm (fun b => kcp υ a b) 20 + (if a = v then 1 else 0) - (if a = w then 1 else 0) := by
  have e : ∀ b, 0 ≤ b → b < 20 → kcp B a b = kcp υ a b + (if a = v ∧ b = w then 1 else 0) - (if a = w ∧ b = v then 1 else 0) := fun b b1 b2 => by
    unfold kcp
    rw [eB, up_if]
    by_cases c1 : a = v ∧ b = w
    · rw [if_pos ⟨rfl, by omega⟩, if_pos c1, if_neg (by omega), eA, up_nk _ _ _ _ (by omega), c1.1, c1.2]; omega
    · rw [if_neg (by omega), if_neg c1, eA, up_if]
      by_cases c2 : a = w ∧ b = v
      · rw [if_pos ⟨rfl, by omega⟩, if_pos c2, c2.1, c2.2]; omega
      · rw [if_neg (by omega), if_neg c2]; omega
  refine ⟨e, ?_⟩
  rw [sm_cg (g := fun b => kcp υ a b + ((if a = v ∧ b = w then (1 : Int) else 0) - (if a = w ∧ b = v then 1 else 0))) (fun b p q => by rw [e b p (by omega)]; omega), sm_ad (fun b => kcp υ a b), sm_sub]
  have o : ∀ p q : Int, 0 ≤ q → q < 20 → sm (fun b => if a = p ∧ b = q then (1 : Int) else 0) 20 = if a = p then 1 else 0 := fun p q q1 q2 => by
    by_cases c : a = p
    · rw [if_pos c]
      refine Eq.trans (sm_cg (fun b _ _ => ?_)) (sm_one (x := q) 1 (n := 20) q1 (by omega))
      (try dsimp only)
      by_cases y : b = q
      · rw [if_pos ⟨c, y⟩, if_pos y]
      · rw [if_neg (fun u => y u.2), if_neg y]
    · rw [if_neg c]
      exact Eq.trans (sm_cg (g := fun _ => (0 : Int)) (fun b _ _ => by (try dsimp only); rw [if_neg (fun u => c u.1)])) (sm_z 20)
  rw [o v w hw.1 hw.2, o w v hv.1 hv.2]
  omega
def kL (σ : eS) (n : Int) : Int → Int → Int := riF n (fun i => σ 15 i) (fun i j => if σ 14 (n * i + j) = 1 then 1 else 0) (fun j => σ 15 (8 + j)) (σ 15 16)
def kH (σ : eS) (n : Int) : Int → Int → Int := riF n (fun i => σ 16 i) (fun i j => if 0 < σ 14 (n * i + j) then 1 else 0) (fun j => σ 16 (8 + j)) (σ 16 16)
def kpY (σ : eS) (n : Int) : Prop := ∃ Y, cirN Y ∧ ∀ v w, 0 ≤ v → v < 18 → 0 ≤ w → w < 18 → kL σ n v w ≤ Y v w ∧ Y v w ≤ kH σ n v w
abbrev chn (n v w : Int) : Prop := (v = 0 ∧ 1 ≤ w ∧ w < 1 + n) ∨ ((1 ≤ v ∧ v < 1 + n) ∧ 9 ≤ w ∧ w < 9 + n) ∨ ((9 ≤ v ∧ v < 9 + n) ∧ w = 17) ∨ (v = 17 ∧ w = 0)
abbrev kdA (k v w : Int) : Prop := (v = 0 ∧ 1 ≤ w ∧ w < 1 + k) ∨ ((9 ≤ v ∧ v < 9 + k) ∧ w = 17)
abbrev kdB (n i j v w : Int) : Prop := kdA n v w ∨ (v = 17 ∧ w = 0) ∨ ((1 ≤ v ∧ v < 1 + i) ∧ 9 ≤ w ∧ w < 9 + n) ∨ (v = 1 + i ∧ 9 ≤ w ∧ w < 9 + j)
theorem riF_0 {n all : Int} {src snk : Int → Int} {mid : Int → Int → Int} {v w : Int} (h : ¬ chn n v w) : riF n src mid snk all v w = 0 := by
  unfold chn at h
  unfold riF
  rw [if_neg (by omega), if_neg (by omega), if_neg (by omega), if_neg (by omega)]
def lhO (σ : eS) (n : Int) : Prop := (∀ k, ((0 ≤ k ∧ k < n) ∨ (8 ≤ k ∧ k < 8 + n)) → σ 15 k ≤ σ 16 k) ∧ σ 15 16 ≤ σ 16 16
theorem t_Mo_isKept {σ : eS} {n : Int} (hn : 1 ≤ n ∧ n ≤ 8) (hl : lhB σ n) (ht : lhT σ) (ho : lhO σ n) : MtI shB M_Mo_isKept [vr 0, vi n] σ (fun σ' z => fr rgQ σ σ' ∧ ((z = 1 ∧ kpY σ n) ∨ (z = 0 ∧ ¬ kpY σ n))) := by
  refine Mt.of okM_Mo_isKept (Nat.le_of_ble_eq_true rfl) (fun hk hg => ?_)
  have n0 : 0 ≤ n ∧ n ≤ 8 := ⟨by omega, hn.2⟩
  have L : ∀ τ : eS, fr rgQ σ τ → (∀ k, τ 15 k = σ 15 k) ∧ (∀ k, τ 16 k = σ 16 k) ∧ ∀ k, τ 14 k = σ 14 k := fun τ g => ⟨fun k => g 15 k (by simp [rgQ]), fun k => g 16 k (by simp [rgQ]), fun k => g 14 k (by simp [rgQ])⟩
  have gC : ∀ (τ υ : eS), fr rgQ σ τ → fr rgC τ υ → fr rgQ σ υ := fun τ υ a b => a.tr (b.mono (fun c k q => Or.inl q))
  obtain ⟨Lf, eL⟩ : ∃ Lf, Lf = kL σ n := ⟨_, rfl⟩
  obtain ⟨Hf, eH⟩ : ∃ Hf, Hf = kH σ n := ⟨_, rfl⟩
  have a0 : ∀ i, 0 ≤ i → i < n → Lf 0 (1 + i) = σ 15 i ∧ Hf 0 (1 + i) = σ 16 i := fun i a c => by
    rw [eL, eH]; unfold kL kH riF
    rw [if_pos (by omega), if_pos (by omega), show 1 + i - 1 = i by omega]; exact ⟨rfl, rfl⟩
  have a1 : ∀ i j, 0 ≤ i → i < n → 0 ≤ j → j < n → Lf (1 + i) (9 + j) = (if σ 14 (n * i + j) = 1 then 1 else 0) ∧ Hf (1 + i) (9 + j) = if 0 < σ 14 (n * i + j) then 1 else 0 := fun i j a c d f => by
    rw [eL, eH]
    refine ⟨?_, ?_⟩
    · unfold kL riF
      rw [if_neg (show ¬ (1 + i = 0 ∧ 1 ≤ 9 + j ∧ 9 + j < 1 + n) by omega), if_pos (show (1 ≤ 1 + i ∧ 1 + i < 1 + n) ∧ 9 ≤ 9 + j ∧ 9 + j < 9 + n by omega)]
      show (if σ 14 (n * (1 + i - 1) + (9 + j - 9)) = 1 then (1 : Int) else 0) = _
      rw [show 1 + i - 1 = i by omega, show 9 + j - 9 = j by omega]
    · unfold kH riF
      rw [if_neg (show ¬ (1 + i = 0 ∧ 1 ≤ 9 + j ∧ 9 + j < 1 + n) by omega), if_pos (show (1 ≤ 1 + i ∧ 1 + i < 1 + n) ∧ 9 ≤ 9 + j ∧ 9 + j < 9 + n by omega)]
      show (if 0 < σ 14 (n * (1 + i - 1) + (9 + j - 9)) then (1 : Int) else 0) = _
      rw [show 1 + i - 1 = i by omega, show 9 + j - 9 = j by omega]
  have a2 : ∀ j, 0 ≤ j → j < n → Lf (9 + j) 17 = σ 15 (8 + j) ∧ Hf (9 + j) 17 = σ 16 (8 + j) := fun j a c => by
    rw [eL, eH]; unfold kL kH riF
    rw [if_neg (by omega), if_neg (by omega), if_pos (by omega), if_neg (by omega), if_neg (by omega), if_pos (by omega), show 9 + j - 9 = j by omega]; exact ⟨rfl, rfl⟩
  have a3 : Lf 17 0 = σ 15 16 ∧ Hf 17 0 = σ 16 16 := by
    rw [eL, eH]; unfold kL kH riF
    rw [if_neg (by omega), if_neg (by omega), if_neg (by omega), if_pos (by omega), if_neg (by omega), if_neg (by omega), if_neg (by omega), if_pos (by omega)]; exact ⟨rfl, rfl⟩
  have a4 : ∀ v w, ¬ chn n v w → Lf v w = 0 ∧ Hf v w = 0 := fun v w q => by rw [eL, eH]; exact ⟨riF_0 q, riF_0 q⟩
  have le : ∀ v w, 0 ≤ v → v < 18 → 0 ≤ w → w < 18 → 0 ≤ Lf v w ∧ Lf v w ≤ Hf v w := fun v w v1 v2 w1 w2 => by
    by_cases c : chn n v w
    · rcases c with ⟨q, c1, c2⟩ | ⟨⟨c1, c2⟩, c3, c4⟩ | ⟨⟨c1, c2⟩, q⟩ | ⟨q1, q2⟩
      · have x := a0 (w - 1) (by omega) (by omega)
        rw [show 1 + (w - 1) = w by omega] at x
        rw [q, x.1, x.2]
        exact ⟨(hl (w - 1) (by omega)).1, ho.1 (w - 1) (by omega)⟩
      · have x := a1 (v - 1) (w - 9) (by omega) (by omega) (by omega) (by omega)
        rw [show 1 + (v - 1) = v by omega, show 9 + (w - 9) = w by omega] at x
        rw [x.1, x.2]
        split <;> split <;> omega
      · have x := a2 (v - 9) (by omega) (by omega)
        rw [show 9 + (v - 9) = v by omega] at x
        rw [q, x.1, x.2]
        exact ⟨(hl (8 + (v - 9)) (by omega)).1, ho.1 (8 + (v - 9)) (by omega)⟩
      · rw [q1, q2, a3.1, a3.2]; exact ⟨ht.1, ho.2⟩
    · have x := a4 v w c; omega
  have kpe : kpY σ n ↔ ∃ Y, cirN Y ∧ ∀ v w, 0 ≤ v → v < 18 → 0 ≤ w → w < 18 → Lf v w ≤ Y v w ∧ Y v w ≤ Hf v w := by rw [eL, eH]; exact Iff.rfl
  clear eL eH
  refine ok_iconst 0 rfl rfl (by decide) (ok_ist2 1 rfl rfl rfl ?_)
  refine lpO2 (fun (k : Int) (_ : eS) => [some (vr 0), some (vi n), some (vi k), none]) (fun _ ρ => ρ) (fun k ρ => 0 ≤ k ∧ k ≤ 400 ∧ fr rgQ σ ρ ∧ ∀ v, 0 ≤ v → v < k → ρ 17 v = 0) (fun k _ => (400 - k).toNat) ?_ 0 σ ⟨by omega, by omega, fr.rf, fun v a b => by omega⟩
  rintro k ρ ⟨k1, k2, f, hz⟩ ih
  refine ok_iload_n 2 rfl rfl rfl (ok_sipush 3 rfl rfl (by decide) (by decide) (ok_icmp_ge 4 22 rfl rfl rfl (fun h6 => ?_) (fun h6 => ?_)))
  · refine ok_iconst 12 rfl rfl (by decide) (ok_ist2 13 rfl rfl rfl ?_)
    have c0 : capB ρ (384 * 0) := fun q a b => by rw [hz q a (by omega)]; omega
    have N0 : NKd Lf Hf (kdA 0) ρ := ⟨fun _ _ => 0, fun _ _ => 0, fun a b a1 a2 b1 b2 => by
        unfold kcp netC
        rw [hz (20 * a + b) (by omega) (by omega), sm_z]
        split
        · rfl
        · split
          · rfl
          · split <;> rfl, fun v w _ _ _ _ => ⟨fun u => by unfold kdA at u; omega, fun _ => ⟨rfl, rfl⟩⟩⟩
    refine lpO2 (fun (i : Int) (_ : eS) => [some (vr 0), some (vi n), some (vi i), none]) (fun _ ρ => ρ) (fun i ρ => 0 ≤ i ∧ i ≤ n ∧ fr rgQ σ ρ ∧ capB ρ (384 * i) ∧ NKd Lf Hf (kdA i) ρ) (fun i _ => (n - i).toNat) ?_ 0 ρ ⟨by omega, by omega, f, c0, N0⟩
    clear N0 c0 hz ih f k1 k2 h6 k ρ
    rintro i ρ ⟨i1, i2, f, hc, N⟩ ih
    obtain ⟨l1, l2, l3⟩ := L ρ f
    refine ok_iload_n 14 rfl rfl rfl (ok_iload_n 15 rfl rfl rfl (ok_icmp_ge 16 83 rfl rfl rfl (fun h26 => ?_) (fun h26 => ?_)))
    · obtain ⟨b1, b2, b3, b4⟩ := id ht
      rw [← l1] at b1 b2
      rw [← l2] at b3 b4
      refine ok_aload_n 51 rfl rfl rfl (ok_bipush 52 rfl rfl (by decide) (by decide) (ok_iconst 53 rfl rfl (by decide) (ok_aload_n 54 rfl rfl rfl (ok_getR 55 rfl rfl fl_X12_57 rfl rfl (ok_bipush 56 rfl rfl (by decide) (by decide) (ok_iald 57 rfl rfl rfl (by first | omega | (simp [up_if]; omega) | (simp [up_if] at *; omega)) (ok_aload_n 58 rfl rfl rfl (ok_getR 59 rfl rfl fl_X12_60 rfl rfl (ok_bipush 60 rfl rfl (by decide) (by decide) (ok_iald 61 rfl rfl rfl (by first | omega | (simp [up_if]; omega) | (simp [up_if] at *; omega)) (ok_callVV (M' := M_Mo_edge) (as := [_, _, _, _]) 62 rfl rfl ml_X12_330 (t_Mo_edge ⟨by omega, by omega⟩ ⟨by omega, by omega⟩ ⟨by omega, by omega⟩ ⟨by omega, by omega⟩ hc ⟨by omega, by omega⟩) rfl rfl (Nat.le_of_ble_eq_true rfl) ⟨Nat.le_of_ble_eq_true rfl, Nat.le_of_ble_eq_true rfl⟩ rfl (Nat.le_of_ble_eq_true rfl) (fun τ hz => ?_))))))))))))
      have g := gC ρ τ f hz.1
      have gc := capB_mono hz.2.1 (show 384 * i + 192 ≤ 192 * (17 + 8 * 0) by omega)
      have N1 := NKd_s (D' := kdB n 0 0) (f := 17) (t := 0) ⟨by omega, by omega⟩ ⟨by omega, by omega⟩ N (by unfold kdA; omega) (by rw [l1, a3.1]) (by rw [l2, a3.2]) hz.2.2 (fun v w => by unfold kdB kdA; omega)
      refine ok_iconst 63 rfl rfl (by decide) (ok_ist2 64 rfl rfl rfl ?_)
      refine lpO2 (fun (i : Int) (_ : eS) => [some (vr 0), some (vi n), some (vi i), none]) (fun _ ρ => ρ) (fun i ρ => 0 ≤ i ∧ i ≤ n ∧ fr rgQ σ ρ ∧ capB ρ (192 * (17 + 8 * i)) ∧ NKd Lf Hf (kdB n i 0) ρ) (fun i _ => (n - i).toNat) ?_ 0 τ ⟨by omega, by omega, g, gc, N1⟩
      clear ih N1 N gc g hz τ f hc l1 l2 l3 b1 b2 b3 b4 ρ
      clear h26 i1 i2 i
      rintro i ρ ⟨i1, i2, f, hc, N⟩ ih
      refine ok_iload_n 65 rfl rfl rfl (ok_iload_n 66 rfl rfl rfl (ok_icmp_ge 67 184 rfl rfl rfl (fun h108 => ?_) (fun h108 => ?_)))
      · refine ok_iconst 112 rfl rfl (by decide) (ok_ist2 113 rfl rfl rfl (ok_iconst 114 rfl rfl (by decide) (ok_ist3 115 rfl rfl rfl ?_)))
        replace hc := capB_mono hc (show 192 * (17 + 8 * i) ≤ 15552 by omega)
        have NF : NK ρ Lf (fun a b => Hf a b - Lf a b) := by
          obtain ⟨x, d, h1, h2⟩ := N
          refine NK_cg h1 (fun v w v1 v2 w1 w2 => ?_)
          obtain ⟨b1, b2⟩ := h2 v w v1 v2 w1 w2
          by_cases c : kdB n i 0 v w
          · exact b1 c
          · have z := a4 v w (fun y => c (by unfold chn at y; unfold kdB kdA; omega))
            have z2 := b2 c
            (try dsimp only)
            omega
        clear ih i1 i2 h108 N i
        refine lpO2 (fun (x k : Int) => [some (vr 0), some (vi n), some (vi x), some (vi k)]) (fun _ _ => ρ) (fun x k => 0 ≤ k ∧ k ≤ 20 ∧ x = sm (fun b => kcp ρ 18 b) k.toNat ∧ -(15552 * k) ≤ x ∧ x ≤ 15552 * k) (fun _ k => (20 - k).toNat) ?_ 0 0 ⟨by omega, by omega, rfl, by omega, by omega⟩
        rintro x k ⟨k1, k2, ex, x1, x2⟩ ih
        have es := sm_s (fun b => kcp ρ 18 b) k1
        refine ok_iload_n 116 rfl rfl rfl (ok_bipush 117 rfl rfl (by decide) (by decide) (ok_icmp_ge 118 213 rfl rfl rfl (fun h191 => ?_) (fun h191 => ?_)))
        · have ek : k = 20 := by omega
          rw [ek] at ex
          obtain ⟨C, eC⟩ : ∃ C, C = netC Lf (fun a b => Hf a b - Lf a b) := ⟨_, rfl⟩
          have Cb : ∀ a b, 0 ≤ a → a < 20 → 0 ≤ b → b < 20 → C a b ≤ 15552 := fun a b p q r s => by
            have y := NF a b p q r s
            rw [← eC] at y
            have z := hc (20 * a + b) (by omega) (by omega)
            unfold kcp at y
            omega
          have I0 : netI C (kcp ρ) := by
            refine ⟨fun a b p q r s => ?_, fun a b p q r s => by rw [NF a b p q r s, NF b a r s p q, eC], fun v p q => sm_cg (fun b r s => by rw [NF v b p (by omega) r (by omega), eC])⟩
            rw [NF a b p q r s]
            unfold netC
            split
            · next c => have := le a b p c.1 r c.2; show 0 ≤ Hf a b - Lf a b; omega
            · split
              · next c => exact sm_nx (fun v u w => (le v b u (by omega) r c.2).1)
              · split
                · next c => exact sm_nx (fun w u v => (le a w p c.1 u (by omega)).1)
                · exact Int.le_refl _
          refine ok_fg [some (vr 0), some (vi n), some (vi x), none] ⟨rfl, rfl, rfl, trivial⟩ (lpO2 (fun (x : Int) (_ : eS) => [some (vr 0), some (vi n), some (vi x), none]) (fun _ τ => τ) (fun x τ => fr rgQ σ τ ∧ x = sm (fun b => kcp τ 18 b) 20 ∧ x ≤ 311040 ∧ netI C (kcp τ)) (fun x _ => x.toNat) ?_ x ρ ⟨f, ex, by omega, I0⟩)
          clear I0 NF ih x1 x2 k1 k2 h191 ex x f hc k ek es ρ
          rintro x τ ⟨f, ex, x2, I⟩ ih
          have x0 : 0 ≤ x := by rw [ex]; exact sm_nx (fun b p q => I.1 18 b (by omega) (by omega) p (by omega))
          refine ok_aload_n 130 rfl rfl rfl (ok_callVI (M' := M_Mo_isWay) (as := []) 131 rfl rfl ml_X12_334 (t_Mo_isWay) rfl rfl (Nat.le_of_ble_eq_true rfl) ⟨Nat.le_of_ble_eq_true rfl, Nat.le_of_ble_eq_true rfl⟩ rfl (Nat.le_of_ble_eq_true rfl) (fun τ' z hz => ?_))
          obtain ⟨g1, g2⟩ := hz
          have g : fr rgQ σ τ' := f.tr (g1.mono (fun c k q => Or.inr q))
          have ekc : kcp τ' = kcp τ := by funext a b; exact g1 17 _ (by simp [rgY])
          refine ok_if_eq 132 285 rfl rfl rfl (fun h217 => ?_) (fun h217 => ?_)
          · have gw : wayC τ := by
              rcases g2 with q | q
              · omega
              · exact q.2
            obtain ⟨S, s1, s2, s3⟩ := gw
            clear g2
            refine ok_iload_n 176 rfl rfl rfl (ok_if_ne 177 293 rfl rfl rfl (fun h286 => ?_) (fun h286 => ?_))
            · refine ok_iconst 180 rfl rfl (by decide) (ok_zret 181 rfl rfl rfl (by first | omega | (simp [up_if]; omega) | (simp [up_if] at *; omega)) ?_)
              first
                | exact ⟨_, rfl, g, Or.inl ⟨rfl, kpe.mpr (net_yes (ch := chn n) (by rw [← eC]; exact I) (by omega) a4 (fun v w u y => by unfold chn at u y; omega))⟩⟩
                | (refine ⟨_, rfl, g, Or.inr ⟨rfl, fun y => ?_⟩⟩
                   obtain ⟨Y, y1, y2⟩ := kpe.mp y
                   have := net_no (K := kcp τ) (by rw [← eC]; exact I) s1 s2 (fun v w v1 v2 w1 w2 p q => s3 v w v1 v2 w1 w2 p q) y1 y2
                   omega)
            · refine ok_iconst 178 rfl rfl (by decide) (ok_goto 179 294 rfl rfl rfl (ok_zret 181 rfl rfl rfl (by first | omega | (simp [up_if]; omega) | (simp [up_if] at *; omega)) ?_))
              first
                | exact ⟨_, rfl, g, Or.inl ⟨rfl, kpe.mpr (net_yes (ch := chn n) (by rw [← eC]; exact I) (by omega) a4 (fun v w u y => by unfold chn at u y; omega))⟩⟩
                | (refine ⟨_, rfl, g, Or.inr ⟨rfl, fun y => ?_⟩⟩
                   obtain ⟨Y, y1, y2⟩ := kpe.mp y
                   have := net_no (K := kcp τ) (by rw [← eC]; exact I) s1 s2 (fun v w v1 v2 w1 w2 p q => s3 v w v1 v2 w1 w2 p q) y1 y2
                   omega)
          · obtain ⟨hf, tl, rk, t20, T1, T2, T3, T4, T5⟩ : τ' 18 19 ≠ -1 ∧ ∃ tl rk, tl ≤ 20 ∧ TrB τ' tl rk := by
              rcases g2 with q | q
              · exact q.2
              · omega
            clear g2 T3 T4 T5
            refine ok_bipush 133 rfl rfl (by decide) (by decide) (ok_ist3 134 rfl rfl rfl ?_)
            refine lpO2 (fun (v : Int) (_ : eS) => [some (vr 0), some (vi n), some (vi x), some (vi v)]) (fun _ υ => υ) (fun v υ => (0 ≤ v ∧ v < 20 ∧ τ' 18 v ≠ -1) ∧ fr rgC τ' υ ∧ (∀ a b, 0 ≤ a → a < 20 → 0 ≤ b → b < 20 → 0 ≤ kcp υ a b ∧ kcp υ a b + kcp υ b a = C a b + C b a) ∧ (∀ a, 0 ≤ a → a < 20 → sm (fun b => kcp υ a b) 20 = sm (fun b => kcp τ a b) 20 + (if a = 19 then 1 else 0) - (if a = v then 1 else 0)) ∧ ∀ a b, 0 ≤ a → a < 20 → 0 ≤ b → b < 20 → (∀ u, 0 ≤ u → u < 20 → τ' 18 u ≠ -1 → u ≠ 18 → rk v < rk u → ¬ ((a = τ' 18 u ∧ b = u) ∨ (a = u ∧ b = τ' 18 u))) → kcp υ a b = kcp τ a b) (fun v _ => (rk v).toNat) ?_ 19 τ' ⟨⟨by omega, by omega, hf⟩, fr.rf, fun a b p q r s => by rw [ekc]; exact ⟨I.1 a b p q r s, I.2.1 a b p q r s⟩, fun a _ _ => by rw [ekc]; omega, fun a b _ _ _ _ _ => by rw [ekc]⟩
            clear hf
            rintro v υ ⟨⟨v1, v2, v3⟩, fu, hu, so, un⟩ ih2
            obtain ⟨r1, r2, r3, r4, r5⟩ := T1 v v1 v2 v3
            have e18 : ∀ k, υ 18 k = τ' 18 k := fun k => fu 18 k (by simp [rgC])
            have e18v := e18 v
            refine ok_iload_n 135 rfl rfl rfl (ok_bipush 136 rfl rfl (by decide) (by decide) (ok_icmp_eq 137 279 rfl rfl rfl (fun h226 => ?_) (fun h226 => ?_)))
            · have e : v = 18 := by omega
              have o18 := so 18 (by omega) (by omega)
              rw [e, if_neg (by omega), if_pos rfl] at o18
              clear r5
              have x1 : 1 ≤ x := by
                have := sm_nx (f := fun b => kcp υ 18 b) (n := 20) (fun b p q => (hu 18 b (by omega) (by omega) p (by omega)).1)
                omega
              refine ok_inc2 174 rfl rfl rfl (by first | omega | (simp [up_if]; omega) | (simp [up_if] at *; omega)) (ok_goto 175 213 rfl rfl rfl ?_)
              refine ok_fg [some (vr 0), some (vi n), some (vi (x - 1)), none] ⟨rfl, rfl, rfl, trivial⟩ (ih (x - 1) υ ⟨gC τ' υ g fu, by omega, by omega, fun a b p q r s => (hu a b p q r s).1, fun a b p q r s => (hu a b p q r s).2, fun u p q => ?_⟩ (by omega))
              have := so u p (by omega)
              rw [e, if_neg (by omega), if_neg (by omega)] at this
              rw [this, ← I.2.2 u p q]; omega
            · have vne : v ≠ 18 := by omega
              obtain ⟨q1, q2, q3⟩ := r5 vne
              clear r5
              obtain ⟨w, ew⟩ : ∃ w, w = τ' 18 v := ⟨_, rfl⟩
              rw [← ew] at e18v r3 r4 q1 q2 q3
              have r6 := (T1 w r3 r4 q1).1
              have wv : v ≠ w := fun y => by rw [← y] at q2; omega
              have uv : kcp υ w v = kcp τ w v := un w v r3 r4 v1 v2 (fun u u1 u2 u3 u4 u5 y => by
                rcases y with ⟨y1, y2⟩ | ⟨y1, y2⟩
                · rw [← y2] at u5; omega
                · rw [← y1] at u5; omega)
              have pos : 0 < kcp υ w v := by rw [uv, ← ekc]; exact q3
              have h1 := hu w v r3 r4 v1 v2
              have h2 := hu v w v1 v2 r3 r4
              have b1 := Cb w v r3 r4 v1 v2
              have b2 := Cb v w v1 v2 r3 r4
              have z1 : υ 17 (20 * w + v) = kcp υ w v := rfl
              have z2 : υ 17 (20 * v + w) = kcp υ v w := rfl
              obtain ⟨A, eA⟩ : ∃ A, A = up υ 17 (20 * w + v) (υ 17 (20 * w + v) - 1) := ⟨_, rfl⟩
              have zA : A 17 (20 * v + w) = kcp υ v w := by rw [eA, up_nk _ _ _ _ (by omega)]; rfl
              have fA : fr rgC τ' A := by rw [eA]; exact fr_up fu rfl
              have a18 : A 18 v = w := by rw [eA, up_ne _ _ _ _ (by decide)]; exact e18v
              refine ok_aload_n 138 rfl rfl rfl (ok_getR 139 rfl rfl fl_X12_63 rfl rfl (ok_bipush 140 rfl rfl (by decide) (by decide) (ok_aload_n 141 rfl rfl rfl (ok_getR 142 rfl rfl fl_X12_66 rfl rfl (ok_iload_n 143 rfl rfl rfl (ok_iald 144 rfl rfl rfl (by first | omega | (simp [up_if]; omega) | (simp [up_if] at *; omega)) ?_))))))
              rw [e18v]
              refine ok_imul 145 rfl rfl (by first | omega | (simp [up_if]; omega) | (simp [up_if] at *; omega)) (ok_iload_n 146 rfl rfl rfl (ok_iadd 147 rfl rfl (by first | omega | (simp [up_if]; omega) | (simp [up_if] at *; omega)) (ok_dup2 148 rfl rfl ⟨rfl, rfl⟩ (ok_iald 149 rfl rfl rfl (by first | omega | (simp [up_if]; omega) | (simp [up_if] at *; omega)) (ok_iconst 150 rfl rfl (by decide) (ok_isub 151 rfl rfl (by first | omega | (simp [up_if]; omega) | (simp [up_if] at *; omega)) (ok_iast 152 rfl rfl rfl (by first | omega | (simp [up_if]; omega) | (simp [up_if] at *; omega)) ?_)))))))
              rw [← eA]
              refine ok_aload_n 153 rfl rfl rfl (ok_getR 154 rfl rfl fl_X12_63 rfl rfl (ok_bipush 155 rfl rfl (by decide) (by decide) (ok_iload_n 156 rfl rfl rfl (ok_imul 157 rfl rfl (by first | omega | (simp [up_if]; omega) | (simp [up_if] at *; omega)) (ok_aload_n 158 rfl rfl rfl (ok_getR 159 rfl rfl fl_X12_66 rfl rfl (ok_iload_n 160 rfl rfl rfl (ok_iald 161 rfl rfl rfl (by first | omega | (simp [up_if]; omega) | (simp [up_if] at *; omega)) ?_))))))))
              rw [a18]
              refine ok_iadd 162 rfl rfl (by first | omega | (simp [up_if]; omega) | (simp [up_if] at *; omega)) (ok_dup2 163 rfl rfl ⟨rfl, rfl⟩ (ok_iald 164 rfl rfl rfl (by first | omega | (simp [up_if]; omega) | (simp [up_if] at *; omega)) (ok_iconst 165 rfl rfl (by decide) (ok_iadd 166 rfl rfl (by first | omega | (simp [up_if]; omega) | (simp [up_if] at *; omega)) (ok_iast 167 rfl rfl rfl (by first | omega | (simp [up_if]; omega) | (simp [up_if] at *; omega)) (ok_aload_n 168 rfl rfl rfl (ok_getR 169 rfl rfl fl_X12_66 rfl rfl (ok_iload_n 170 rfl rfl rfl (ok_iald 171 rfl rfl rfl (by first | omega | (simp [up_if]; omega) | (simp [up_if] at *; omega)) ?_)))))))))
              rw [up_ne _ _ _ _ (show (18 : Nat) ≠ 17 by decide), a18]
              refine ok_ist3 172 rfl rfl rfl (ok_goto 173 223 rfl rfl rfl ?_)
              obtain ⟨Bs, eB⟩ : ∃ Bs, Bs = up A 17 (20 * v + w) (A 17 (20 * v + w) + 1) := ⟨_, rfl⟩
              rw [← eB]
              have ks := fun a (ha : 0 ≤ a ∧ a < 20) => ks_up (υ := υ) (v := v) (w := w) (a := a) ⟨v1, v2⟩ ⟨r3, r4⟩ wv ha eA eB
              refine ih2 w Bs ⟨⟨r3, r4, q1⟩, by rw [eB]; exact fr_up fA rfl, fun a b p q r s => ?_, fun a p q => ?_, fun a b p q r s no => ?_⟩ (by omega)
              · have y1 := (ks a ⟨p, q⟩).1 b r s
                have y2 := (ks b ⟨r, s⟩).1 a p q
                have y3 := hu a b p q r s
                rw [y1, y2]
                by_cases c1 : a = v ∧ b = w
                · rw [if_pos c1, if_neg (by omega), if_neg (by omega), if_pos ⟨c1.2, c1.1⟩]; omega
                · by_cases c2 : a = w ∧ b = v
                  · rw [if_neg c1, if_pos c2, if_pos ⟨c2.2, c2.1⟩, if_neg (by omega)]
                    rw [c2.1, c2.2] at y3 ⊢
                    omega
                  · rw [if_neg c1, if_neg c2, if_neg (fun y => c2 ⟨y.2, y.1⟩), if_neg (fun y => c1 ⟨y.2, y.1⟩)]; omega
              · rw [(ks a ⟨p, q⟩).2, so a p q]; omega
              · have y1 := (ks a ⟨p, q⟩).1 b r s
                have nv := no v v1 v2 v3 vne q2
                rw [← ew] at nv
                rw [y1, if_neg (fun y => nv (Or.inr y)), if_neg (fun y => nv (Or.inl y)), Int.add_zero, Int.sub_zero]
                exact un a b p q r s (fun u u1 u2 u3 u4 u5 => no u u1 u2 u3 u4 (by omega))
        · have cb := hc (360 + k) (by omega) (by omega)
          have ck : kcp ρ 18 k = ρ 17 (360 + k) := by unfold kcp; rw [show 20 * 18 + k = 360 + k by omega]
          refine ok_iload_n 119 rfl rfl rfl (ok_aload_n 120 rfl rfl rfl (ok_getR 121 rfl rfl fl_X12_63 rfl rfl (ok_sipush 122 rfl rfl (by decide) (by decide) (ok_iload_n 123 rfl rfl rfl (ok_iadd 124 rfl rfl (by first | omega | (simp [up_if]; omega) | (simp [up_if] at *; omega)) (ok_iald 125 rfl rfl rfl (by first | omega | (simp [up_if]; omega) | (simp [up_if] at *; omega)) (ok_iadd 126 rfl rfl (by first | omega | (simp [up_if]; omega) | (simp [up_if] at *; omega)) (ok_ist2 127 rfl rfl rfl (ok_inc3 128 rfl rfl rfl (by first | omega | (simp [up_if]; omega) | (simp [up_if] at *; omega)) (ok_goto 129 188 rfl rfl rfl ?_))))))))))
          exact ih _ (k + 1) ⟨by omega, by omega, by rw [es, ex, ck], by omega, by omega⟩ (by omega)
      · refine ok_iconst 68 rfl rfl (by decide) (ok_ist3 69 rfl rfl rfl ?_)
        have il : i < n := by omega
        refine lpO2 (fun (j : Int) (_ : eS) => [some (vr 0), some (vi n), some (vi i), some (vi j)]) (fun _ ρ => ρ) (fun j ρ => 0 ≤ j ∧ j ≤ n ∧ fr rgQ σ ρ ∧ capB ρ (192 * (17 + 8 * i + j)) ∧ NKd Lf Hf (kdB n i j) ρ) (fun j _ => (n - j).toNat) ?_ 0 ρ ⟨by omega, by omega, f, capB_mono hc (by omega), N⟩
        clear f hc N ρ
        rintro j ρ ⟨j1, j2, f, hc, N⟩ ih2
        obtain ⟨l1, l2, l3⟩ := L ρ f
        refine ok_iload_n 70 rfl rfl rfl (ok_iload_n 71 rfl rfl rfl (ok_icmp_ge 72 178 rfl rfl rfl (fun h115 => ?_) (fun h115 => ?_)))
        · refine ok_inc2 110 rfl rfl rfl (by first | omega | (simp [up_if]; omega) | (simp [up_if] at *; omega)) (ok_goto 111 106 rfl rfl rfl ?_)
          refine ok_fg [some (vr 0), some (vi n), some (vi (i + 1)), none] ⟨rfl, rfl, rfl, trivial⟩ (ih (i + 1) ρ ⟨by omega, by omega, f, capB_mono hc (by omega), ?_⟩ (by omega))
          obtain ⟨x, d, h1, h2⟩ := N
          refine ⟨x, d, h1, fun v w v1 v2 w1 w2 => ?_⟩
          obtain ⟨b1, b2⟩ := h2 v w v1 v2 w1 w2
          have ej : j = n := by omega
          exact ⟨fun u => b1 (by unfold kdB kdA at u ⊢; omega), fun u => b2 (fun y => u (by unfold kdB kdA at y ⊢; omega))⟩
        · have bm := ix8 (n := n) (i := i) (j := j) ⟨by omega, by omega⟩ ⟨by omega, by omega⟩ ⟨by omega, by omega⟩
          have fe := l3 (n * i + j)
          have mid := a1 i j i1 il j1 (by omega)
          refine ok_aload_n 73 rfl rfl rfl (ok_iconst 74 rfl rfl (by decide) (ok_iload_n 75 rfl rfl rfl (ok_iadd 76 rfl rfl (by first | omega | (simp [up_if]; omega) | (simp [up_if] at *; omega)) (ok_bipush 77 rfl rfl (by decide) (by decide) (ok_iload_n 78 rfl rfl rfl (ok_iadd 79 rfl rfl (by first | omega | (simp [up_if]; omega) | (simp [up_if] at *; omega)) (ok_aload_n 80 rfl rfl rfl (ok_getR 81 rfl rfl fl_X12_54 rfl rfl (ok_iload_n 82 rfl rfl rfl (ok_iload_n 83 rfl rfl rfl (ok_imul 84 rfl rfl (by first | omega | (simp [up_if]; omega) | (simp [up_if] at *; omega)) (ok_iload_n 85 rfl rfl rfl (ok_iadd 86 rfl rfl (by first | omega | (simp [up_if]; omega) | (simp [up_if] at *; omega)) (ok_iald 87 rfl rfl rfl (by first | omega | (simp [up_if]; omega) | (simp [up_if] at *; omega)) (ok_iconst 88 rfl rfl (by decide) (ok_icmp_ne 89 144 rfl rfl rfl (fun h137 => ?_) (fun h137 => ?_)))))))))))))))))
          · refine ok_iconst 92 rfl rfl (by decide) (ok_callSI (M' := M_Mo_one) (as := [_]) 93 rfl rfl ml_X12_192 (s_Mo_one) ⟨Nat.le_of_ble_eq_true rfl, Nat.le_of_ble_eq_true rfl⟩ rfl (Nat.le_of_ble_eq_true rfl) (fun σ' y1 p1 => ?_))
            obtain ⟨hs_, p1⟩ := p1
            rw [hs_]; clear hs_ σ'
            have q1 : y1 = Lf (1 + i) (9 + j) := by rw [p1, mid.1]; first | rw [if_neg (by decide), if_pos (by omega)] | rw [if_pos rfl, if_neg (by omega)]
            have p1 : 0 ≤ y1 ∧ y1 ≤ 1 := by rw [p1]; split <;> omega
            refine ok_aload_n 94 rfl rfl rfl (ok_getR 95 rfl rfl fl_X12_54 rfl rfl (ok_iload_n 96 rfl rfl rfl (ok_iload_n 97 rfl rfl rfl (ok_imul 98 rfl rfl (by first | omega | (simp [up_if]; omega) | (simp [up_if] at *; omega)) (ok_iload_n 99 rfl rfl rfl (ok_iadd 100 rfl rfl (by first | omega | (simp [up_if]; omega) | (simp [up_if] at *; omega)) (ok_iald 101 rfl rfl rfl (by first | omega | (simp [up_if]; omega) | (simp [up_if] at *; omega)) (ok_if_le 102 165 rfl rfl rfl (fun h158 => ?_) (fun h158 => ?_)))))))))
            · refine ok_iconst 105 rfl rfl (by decide) (ok_callSI (M' := M_Mo_one) (as := [_]) 106 rfl rfl ml_X12_192 (s_Mo_one) ⟨Nat.le_of_ble_eq_true rfl, Nat.le_of_ble_eq_true rfl⟩ rfl (Nat.le_of_ble_eq_true rfl) (fun σ' y2 p2 => ?_))
              obtain ⟨hs_, p2⟩ := p2
              rw [hs_]; clear hs_ σ'
              have q2 : y2 = Hf (1 + i) (9 + j) := by rw [p2, mid.2]; first | rw [if_neg (by decide), if_pos (by omega)] | rw [if_pos rfl, if_neg (by omega)]
              have p2 : 0 ≤ y2 ∧ y2 ≤ 1 := by rw [p2]; split <;> omega
              refine ok_callVV (M' := M_Mo_edge) (as := [_, _, _, _]) 107 rfl rfl ml_X12_330 (t_Mo_edge ⟨by omega, by omega⟩ ⟨by omega, by omega⟩ ⟨by omega, by omega⟩ ⟨by omega, by omega⟩ hc ⟨by omega, by omega⟩) rfl rfl (Nat.le_of_ble_eq_true rfl) ⟨Nat.le_of_ble_eq_true rfl, Nat.le_of_ble_eq_true rfl⟩ rfl (Nat.le_of_ble_eq_true rfl) (fun τ hz => ?_)
              refine ok_inc3 108 rfl rfl rfl (by first | omega | (simp [up_if]; omega) | (simp [up_if] at *; omega)) (ok_goto 109 113 rfl rfl rfl ?_)
              have N1 := NKd_s (D' := kdB n i (j + 1)) (f := 1 + i) (t := 9 + j) ⟨by omega, by omega⟩ ⟨by omega, by omega⟩ N (by unfold kdB kdA; omega) q1 q2 hz.2.2 (fun v w => by unfold kdB kdA; omega)
              exact ih2 (j + 1) τ ⟨by omega, by omega, gC ρ τ f hz.1, capB_mono hz.2.1 (by omega), N1⟩ (by omega)
            · refine ok_iconst 103 rfl rfl (by decide) (ok_goto 104 166 rfl rfl rfl (ok_callSI (M' := M_Mo_one) (as := [_]) 106 rfl rfl ml_X12_192 (s_Mo_one) ⟨Nat.le_of_ble_eq_true rfl, Nat.le_of_ble_eq_true rfl⟩ rfl (Nat.le_of_ble_eq_true rfl) (fun σ' y2 p2 => ?_)))
              obtain ⟨hs_, p2⟩ := p2
              rw [hs_]; clear hs_ σ'
              have q2 : y2 = Hf (1 + i) (9 + j) := by rw [p2, mid.2]; first | rw [if_neg (by decide), if_pos (by omega)] | rw [if_pos rfl, if_neg (by omega)]
              have p2 : 0 ≤ y2 ∧ y2 ≤ 1 := by rw [p2]; split <;> omega
              refine ok_callVV (M' := M_Mo_edge) (as := [_, _, _, _]) 107 rfl rfl ml_X12_330 (t_Mo_edge ⟨by omega, by omega⟩ ⟨by omega, by omega⟩ ⟨by omega, by omega⟩ ⟨by omega, by omega⟩ hc ⟨by omega, by omega⟩) rfl rfl (Nat.le_of_ble_eq_true rfl) ⟨Nat.le_of_ble_eq_true rfl, Nat.le_of_ble_eq_true rfl⟩ rfl (Nat.le_of_ble_eq_true rfl) (fun τ hz => ?_)
              refine ok_inc3 108 rfl rfl rfl (by first | omega | (simp [up_if]; omega) | (simp [up_if] at *; omega)) (ok_goto 109 113 rfl rfl rfl ?_)
              have N1 := NKd_s (D' := kdB n i (j + 1)) (f := 1 + i) (t := 9 + j) ⟨by omega, by omega⟩ ⟨by omega, by omega⟩ N (by unfold kdB kdA; omega) q1 q2 hz.2.2 (fun v w => by unfold kdB kdA; omega)
              exact ih2 (j + 1) τ ⟨by omega, by omega, gC ρ τ f hz.1, capB_mono hz.2.1 (by omega), N1⟩ (by omega)
          · refine ok_iconst 90 rfl rfl (by decide) (ok_goto 91 145 rfl rfl rfl (ok_callSI (M' := M_Mo_one) (as := [_]) 93 rfl rfl ml_X12_192 (s_Mo_one) ⟨Nat.le_of_ble_eq_true rfl, Nat.le_of_ble_eq_true rfl⟩ rfl (Nat.le_of_ble_eq_true rfl) (fun σ' y1 p1 => ?_)))
            obtain ⟨hs_, p1⟩ := p1
            rw [hs_]; clear hs_ σ'
            have q1 : y1 = Lf (1 + i) (9 + j) := by rw [p1, mid.1]; first | rw [if_neg (by decide), if_pos (by omega)] | rw [if_pos rfl, if_neg (by omega)]
            have p1 : 0 ≤ y1 ∧ y1 ≤ 1 := by rw [p1]; split <;> omega
            refine ok_aload_n 94 rfl rfl rfl (ok_getR 95 rfl rfl fl_X12_54 rfl rfl (ok_iload_n 96 rfl rfl rfl (ok_iload_n 97 rfl rfl rfl (ok_imul 98 rfl rfl (by first | omega | (simp [up_if]; omega) | (simp [up_if] at *; omega)) (ok_iload_n 99 rfl rfl rfl (ok_iadd 100 rfl rfl (by first | omega | (simp [up_if]; omega) | (simp [up_if] at *; omega)) (ok_iald 101 rfl rfl rfl (by first | omega | (simp [up_if]; omega) | (simp [up_if] at *; omega)) (ok_if_le 102 165 rfl rfl rfl (fun h158 => ?_) (fun h158 => ?_)))))))))
            · refine ok_iconst 105 rfl rfl (by decide) (ok_callSI (M' := M_Mo_one) (as := [_]) 106 rfl rfl ml_X12_192 (s_Mo_one) ⟨Nat.le_of_ble_eq_true rfl, Nat.le_of_ble_eq_true rfl⟩ rfl (Nat.le_of_ble_eq_true rfl) (fun σ' y2 p2 => ?_))
              obtain ⟨hs_, p2⟩ := p2
              rw [hs_]; clear hs_ σ'
              have q2 : y2 = Hf (1 + i) (9 + j) := by rw [p2, mid.2]; first | rw [if_neg (by decide), if_pos (by omega)] | rw [if_pos rfl, if_neg (by omega)]
              have p2 : 0 ≤ y2 ∧ y2 ≤ 1 := by rw [p2]; split <;> omega
              refine ok_callVV (M' := M_Mo_edge) (as := [_, _, _, _]) 107 rfl rfl ml_X12_330 (t_Mo_edge ⟨by omega, by omega⟩ ⟨by omega, by omega⟩ ⟨by omega, by omega⟩ ⟨by omega, by omega⟩ hc ⟨by omega, by omega⟩) rfl rfl (Nat.le_of_ble_eq_true rfl) ⟨Nat.le_of_ble_eq_true rfl, Nat.le_of_ble_eq_true rfl⟩ rfl (Nat.le_of_ble_eq_true rfl) (fun τ hz => ?_)
              refine ok_inc3 108 rfl rfl rfl (by first | omega | (simp [up_if]; omega) | (simp [up_if] at *; omega)) (ok_goto 109 113 rfl rfl rfl ?_)
              have N1 := NKd_s (D' := kdB n i (j + 1)) (f := 1 + i) (t := 9 + j) ⟨by omega, by omega⟩ ⟨by omega, by omega⟩ N (by unfold kdB kdA; omega) q1 q2 hz.2.2 (fun v w => by unfold kdB kdA; omega)
              exact ih2 (j + 1) τ ⟨by omega, by omega, gC ρ τ f hz.1, capB_mono hz.2.1 (by omega), N1⟩ (by omega)
            · refine ok_iconst 103 rfl rfl (by decide) (ok_goto 104 166 rfl rfl rfl (ok_callSI (M' := M_Mo_one) (as := [_]) 106 rfl rfl ml_X12_192 (s_Mo_one) ⟨Nat.le_of_ble_eq_true rfl, Nat.le_of_ble_eq_true rfl⟩ rfl (Nat.le_of_ble_eq_true rfl) (fun σ' y2 p2 => ?_)))
              obtain ⟨hs_, p2⟩ := p2
              rw [hs_]; clear hs_ σ'
              have q2 : y2 = Hf (1 + i) (9 + j) := by rw [p2, mid.2]; first | rw [if_neg (by decide), if_pos (by omega)] | rw [if_pos rfl, if_neg (by omega)]
              have p2 : 0 ≤ y2 ∧ y2 ≤ 1 := by rw [p2]; split <;> omega
              refine ok_callVV (M' := M_Mo_edge) (as := [_, _, _, _]) 107 rfl rfl ml_X12_330 (t_Mo_edge ⟨by omega, by omega⟩ ⟨by omega, by omega⟩ ⟨by omega, by omega⟩ ⟨by omega, by omega⟩ hc ⟨by omega, by omega⟩) rfl rfl (Nat.le_of_ble_eq_true rfl) ⟨Nat.le_of_ble_eq_true rfl, Nat.le_of_ble_eq_true rfl⟩ rfl (Nat.le_of_ble_eq_true rfl) (fun τ hz => ?_)
              refine ok_inc3 108 rfl rfl rfl (by first | omega | (simp [up_if]; omega) | (simp [up_if] at *; omega)) (ok_goto 109 113 rfl rfl rfl ?_)
              have N1 := NKd_s (D' := kdB n i (j + 1)) (f := 1 + i) (t := 9 + j) ⟨by omega, by omega⟩ ⟨by omega, by omega⟩ N (by unfold kdB kdA; omega) q1 q2 hz.2.2 (fun v w => by unfold kdB kdA; omega)
              exact ih2 (j + 1) τ ⟨by omega, by omega, gC ρ τ f hz.1, capB_mono hz.2.1 (by omega), N1⟩ (by omega)
    · have b1 := hl i (by omega)
      have b2 := hl (8 + i) (by omega)
      rw [← l1, ← l2] at b1
      refine ok_aload_n 17 rfl rfl rfl (ok_iconst 18 rfl rfl (by decide) (ok_iconst 19 rfl rfl (by decide) (ok_iload_n 20 rfl rfl rfl (ok_iadd 21 rfl rfl (by first | omega | (simp [up_if]; omega) | (simp [up_if] at *; omega)) (ok_aload_n 22 rfl rfl rfl (ok_getR 23 rfl rfl fl_X12_57 rfl rfl (ok_iload_n 24 rfl rfl rfl (ok_iald 25 rfl rfl rfl (by first | omega | (simp [up_if]; omega) | (simp [up_if] at *; omega)) (ok_aload_n 26 rfl rfl rfl (ok_getR 27 rfl rfl fl_X12_60 rfl rfl (ok_iload_n 28 rfl rfl rfl (ok_iald 29 rfl rfl rfl (by first | omega | (simp [up_if]; omega) | (simp [up_if] at *; omega)) (ok_callVV (M' := M_Mo_edge) (as := [_, _, _, _]) 30 rfl rfl ml_X12_330 (t_Mo_edge ⟨by omega, by omega⟩ ⟨by omega, by omega⟩ ⟨by omega, by omega⟩ ⟨by omega, by omega⟩ hc ⟨by omega, by omega⟩) rfl rfl (Nat.le_of_ble_eq_true rfl) ⟨Nat.le_of_ble_eq_true rfl, Nat.le_of_ble_eq_true rfl⟩ rfl (Nat.le_of_ble_eq_true rfl) (fun τ hz => ?_))))))))))))))
      have g := gC ρ τ f hz.1
      have N1 := NKd_s (D' := fun v w => kdA i v w ∨ (v = 0 ∧ w = 1 + i)) (f := 0) (t := 1 + i) ⟨by omega, by omega⟩ ⟨by omega, by omega⟩ N (by unfold kdA; omega) (by rw [l1, (a0 i i1 (by omega)).1]) (by rw [l2, (a0 i i1 (by omega)).2]) hz.2.2 (fun _ _ => Iff.rfl)
      obtain ⟨m1, m2, m3⟩ := L τ g
      rw [← m1, ← m2] at b2
      refine ok_aload_n 31 rfl rfl rfl (ok_bipush 32 rfl rfl (by decide) (by decide) (ok_iload_n 33 rfl rfl rfl (ok_iadd 34 rfl rfl (by first | omega | (simp [up_if]; omega) | (simp [up_if] at *; omega)) (ok_bipush 35 rfl rfl (by decide) (by decide) (ok_aload_n 36 rfl rfl rfl (ok_getR 37 rfl rfl fl_X12_57 rfl rfl (ok_bipush 38 rfl rfl (by decide) (by decide) (ok_iload_n 39 rfl rfl rfl (ok_iadd 40 rfl rfl (by first | omega | (simp [up_if]; omega) | (simp [up_if] at *; omega)) (ok_iald 41 rfl rfl rfl (by first | omega | (simp [up_if]; omega) | (simp [up_if] at *; omega)) (ok_aload_n 42 rfl rfl rfl (ok_getR 43 rfl rfl fl_X12_60 rfl rfl (ok_bipush 44 rfl rfl (by decide) (by decide) (ok_iload_n 45 rfl rfl rfl (ok_iadd 46 rfl rfl (by first | omega | (simp [up_if]; omega) | (simp [up_if] at *; omega)) (ok_iald 47 rfl rfl rfl (by first | omega | (simp [up_if]; omega) | (simp [up_if] at *; omega)) (ok_callVV (M' := M_Mo_edge) (as := [_, _, _, _]) 48 rfl rfl ml_X12_330 (t_Mo_edge ⟨by omega, by omega⟩ ⟨by omega, by omega⟩ ⟨by omega, by omega⟩ ⟨by omega, by omega⟩ hz.2.1 ⟨by omega, by omega⟩) rfl rfl (Nat.le_of_ble_eq_true rfl) ⟨Nat.le_of_ble_eq_true rfl, Nat.le_of_ble_eq_true rfl⟩ rfl (Nat.le_of_ble_eq_true rfl) (fun υ hz2 => ?_))))))))))))))))))
      refine ok_inc2 49 rfl rfl rfl (by first | omega | (simp [up_if]; omega) | (simp [up_if] at *; omega)) (ok_goto 50 24 rfl rfl rfl ?_)
      have N2 := NKd_s (D' := kdA (i + 1)) (f := 9 + i) (t := 17) ⟨by omega, by omega⟩ ⟨by omega, by omega⟩ N1 (by unfold kdA; omega) (by rw [m1, (a2 i i1 (by omega)).1]) (by rw [m2, (a2 i i1 (by omega)).2]) hz2.2.2 (fun v w => by unfold kdA; omega)
      exact ih (i + 1) υ ⟨by omega, by omega, gC τ υ g hz2.1, capB_mono hz2.2.1 (by omega), N2⟩ (by omega)
  · refine ok_aload_n 5 rfl rfl rfl (ok_getR 6 rfl rfl fl_X12_63 rfl rfl (ok_iload_n 7 rfl rfl rfl (ok_iconst 8 rfl rfl (by decide) (ok_iast 9 rfl rfl rfl (by first | omega | (simp [up_if]; omega) | (simp [up_if] at *; omega)) (ok_inc2 10 rfl rfl rfl (by first | omega | (simp [up_if]; omega) | (simp [up_if] at *; omega)) (ok_goto 11 2 rfl rfl rfl ?_))))))
    refine ih (k + 1) _ ⟨by omega, by omega, fr_up f (by simp [rgQ]), lt_ext (fun v a b => ?_) ?_⟩ (by omega)
    · rw [up_nk _ _ _ _ (by omega)]; exact hz v a b
    · rw [up_same]
end
section
/-! ROUNDING, the reference: the bounds laid, exactly -/
theorem fl_ex {f : Int → Int} {b : Int} (hb : 1 ≤ b) : ∀ n : Nat, sm f n = b * sm (fun k => f k / b) n + sm (fun k => f k % b) n
  | 0 => by simp [sm]
  | n + 1 => by
    have ih := fl_ex (f := f) hb n
    have g := Int.mul_ediv_add_emod (f n) b
    have e1 : sm f (n + 1) = sm f n + f n := rfl
    have e2 : sm (fun k => f k / b) (n + 1) = sm (fun k => f k / b) n + f n / b := rfl
    have e3 : sm (fun k => f k % b) (n + 1) = sm (fun k => f k % b) n + f n % b := rfl
    rw [e1, e2, e3, Int.mul_add]
    omega
theorem lo_ex {b G r : Int} (hb : 1 ≤ b) : (b * G + r) / b - G = loB' b r ∧ (b * G + r + b - 1) / b - G = hiB' b r := by
  have e := Int.mul_ediv_add_emod r b
  have r0 := Int.emod_nonneg r (by omega : b ≠ 0)
  have r1 := Int.emod_lt_of_pos r (by omega : 0 < b)
  have a1 := Int.add_mul_ediv_left r G (by omega : b ≠ 0)
  have a2 := Int.add_mul_ediv_left (r + b - 1) G (by omega : b ≠ 0)
  rw [show b * G + r = r + b * G by omega, a1, show r + b * G + b - 1 = r + b - 1 + b * G by omega, a2]
  unfold loB' hiB'
  refine ⟨by omega, ?_⟩
  have m1 : b * (r / b) = (r / b) * b := Int.mul_comm _ _
  have m2 : (r / b + 1) * b = (r / b) * b + b := by rw [Int.add_mul, Int.one_mul]
  have m3 : (r / b + 1 + 1) * b = (r / b) * b + b + b := by rw [Int.add_mul, Int.add_mul, Int.one_mul]
  split
  · have c1 : r / b ≤ (r + b - 1) / b := Int.le_ediv_of_mul_le (by omega) (by omega)
    have c2 : (r + b - 1) / b < r / b + 1 := Int.ediv_lt_of_lt_mul (by omega) (by omega)
    omega
  · have c1 : r / b + 1 ≤ (r + b - 1) / b := Int.le_ediv_of_mul_le (by omega) (by omega)
    have c2 : (r + b - 1) / b < r / b + 1 + 1 := Int.ediv_lt_of_lt_mul (by omega) (by omega)
    omega
def lhP (n b : Int) (R : Int → Int → Int) (ρ : eS) (i : Int) : Prop := ∀ k, 0 ≤ k → k < i → ρ 15 k = loB' b (sm (fun j => R k j) n.toNat) ∧ ρ 16 k = hiB' b (sm (fun j => R k j) n.toNat) ∧ ρ 15 (8 + k) = loB' b (sm (fun j => R j k) n.toNat) ∧ ρ 16 (8 + k) = hiB' b (sm (fun j => R j k) n.toNat)
def lhE (n b : Int) (R : Int → Int → Int) (ρ : eS) : Prop := lhP n b R ρ n ∧ ρ 15 16 = loB' b (sm (fun i => sm (fun j => R i j) n.toNat) n.toNat) ∧ ρ 16 16 = hiB' b (sm (fun i => sm (fun j => R i j) n.toNat) n.toNat)
theorem lhE_cg {n b : Int} {R : Int → Int → Int} {ρ τ : eS} (h : lhE n b R ρ) (e : ∀ k, τ 15 k = ρ 15 k ∧ τ 16 k = ρ 16 k) : lhE n b R τ := by
  refine ⟨fun k k1 k2 => ?_, ?_, ?_⟩
  · rw [(e k).1, (e k).2, (e (8 + k)).1, (e (8 + k)).2]; exact h.1 k k1 k2
  · rw [(e 16).1]; exact h.2.1
  · rw [(e 16).2]; exact h.2.2
/-- what the bounds are at most -/
theorem lohi_m {b s m : Int} (hb : 1 ≤ b) (hs : 0 ≤ s) (hm : 1 ≤ m) (h : s < m * b) : 0 ≤ loB' b s ∧ loB' b s ≤ m ∧ 0 ≤ hiB' b s ∧ hiB' b s ≤ m ∧ loB' b s ≤ hiB' b s := by
  obtain ⟨a1, a2, a3, a4, a5⟩ := lohi hb hs
  have c : s / b < m := Int.ediv_lt_of_lt_mul (by omega) h
  have d : loB' b s = s / b := rfl
  omega
theorem lhE_bd {n b : Int} {R : Int → Int → Int} {ρ : eS} (hn : 1 ≤ n ∧ n ≤ 8) (hb : 1 ≤ b) (hR : ∀ i j, 0 ≤ i → i < n → 0 ≤ j → j < n → 0 ≤ R i j ∧ R i j < b) (h : lhE n b R ρ) : lhB ρ n ∧ lhT ρ ∧ lhO ρ n := by
  have n0 : 0 ≤ n ∧ n ≤ 8 := ⟨by omega, hn.2⟩
  obtain ⟨s1, s2, s3, s4⟩ := sum_bd n0 (B := b - 1) (by omega) (fun i j a c d e => ⟨(hR i j a c d e).1, by have := (hR i j a c d e).2; omega⟩)
  have one : ∀ k, 0 ≤ k → k < n → (0 ≤ ρ 15 k ∧ ρ 15 k ≤ 8 ∧ 0 ≤ ρ 16 k ∧ ρ 16 k ≤ 8 ∧ ρ 15 k ≤ ρ 16 k) ∧ 0 ≤ ρ 15 (8 + k) ∧ ρ 15 (8 + k) ≤ 8 ∧ 0 ≤ ρ 16 (8 + k) ∧ ρ 16 (8 + k) ≤ 8 ∧ ρ 15 (8 + k) ≤ ρ 16 (8 + k) := fun k a c => by
    obtain ⟨e1, e2, e3, e4⟩ := h.1 k a c
    rw [e1, e2, e3, e4]
    exact ⟨lohi_m hb (s1 k a c).1 (by omega) (by have := (s1 k a c).2; omega), lohi_m hb (s2 k a c).1 (by omega) (by have := (s2 k a c).2; omega)⟩
  have all := lohi_m (m := 64) hb s3 (by omega) (by omega)
  rw [← h.2.1, ← h.2.2] at all
  have any : ∀ k, ((0 ≤ k ∧ k < n) ∨ (8 ≤ k ∧ k < 8 + n)) → 0 ≤ ρ 15 k ∧ ρ 15 k ≤ 8 ∧ 0 ≤ ρ 16 k ∧ ρ 16 k ≤ 8 ∧ ρ 15 k ≤ ρ 16 k := fun k q => by
    rcases q with q | q
    · exact (one k q.1 q.2).1
    · have := (one (k - 8) (by omega) (by omega)).2
      rw [show 8 + (k - 8) = k by omega] at this
      exact this
  refine ⟨fun k q => ?_, ?_, fun k q => (any k q).2.2.2.2, all.2.2.2.2⟩
  · have := any k q
    omega
  · unfold lhT; omega
theorem t_Mo_laysBounds {σ : eS} {s : Int} (hB : iB1 σ) (ht : tabB σ s) : MtV shB M_Mo_laysBounds [vr 0, vi s] σ (fun σ' => fr rgH σ σ' ∧ lhE (σ 1 s) (σ 2 s) (fun i j => cB σ s i j % σ 2 s) σ') := by
  refine Mt.of okM_Mo_laysBounds (Nat.le_of_ble_eq_true rfl) (fun hk hg => ?_)
  obtain ⟨u1, u2, u3⟩ := ht
  have tn := hB.1 s u1 u2
  obtain ⟨n, en⟩ : ∃ n, n = σ 1 s := ⟨_, rfl⟩
  obtain ⟨b, eb⟩ : ∃ b, b = σ 2 s := ⟨_, rfl⟩
  have hb : 1 ≤ b ∧ b ≤ 999999 := by have := tn.2.2 (by omega); omega
  have n1 : 1 ≤ n ∧ n ≤ 8 := by omega
  rw [← en, ← eb]
  obtain ⟨R, eR⟩ : ∃ R : Int → Int → Int, R = fun i j => cB σ s i j % b := ⟨_, rfl⟩
  rw [← eR]
  have E : ∀ τ : eS, fr rgH σ τ → iB1 τ ∧ τ 1 s = n ∧ cB τ s = cB σ s ∧ rowB τ s = rowB σ s ∧ colB τ s = colB σ s := fun τ g => by
    have e1 : ∀ k, τ 1 k = σ 1 k := fun k => g 1 k (by simp [rgH])
    have e3 : ∀ k, τ 3 k = σ 3 k := fun k => g 3 k (by simp [rgH])
    refine ⟨iB1_frS hB g (fun c k q => by simp only [rgH]; omega), by rw [e1, en], ?_, ?_, ?_⟩
    · funext a b; unfold cB; rw [e1, e3]
    · funext a; unfold rowB cB; simp only [e1, e3]
    · funext a; unfold colB cB; simp only [e1, e3]
  have A : ∀ (τ : eS) (i j : Int), fr rgH σ τ → 0 ≤ i ∧ i < n → 0 ≤ j ∧ j < n → MtI shB M_Mo_at [vr 0, vi s, vi i, vi j] τ (fun σ' z => σ' = τ ∧ z = cB σ s i j) := fun τ i j g hi hj => by
    obtain ⟨x1, x2, x3, x4, x5⟩ := E τ g
    rw [← x3]; exact s_Mo_at x1 ⟨u1, u2⟩ (by rw [x2]; exact hi) (by rw [x2]; exact hj)
  have RO : ∀ (τ : eS) (i : Int), fr rgH σ τ → 0 ≤ i ∧ i < n → MtL shB M_Mo_rowOf [vr 0, vi s, vi i] τ (fun σ' z => σ' = τ ∧ z = rowB σ s i) := fun τ i g hi => by
    obtain ⟨x1, x2, x3, x4, x5⟩ := E τ g
    rw [← x4]; exact s_Mo_rowOf x1 ⟨u1, u2⟩ (by rw [x2]; exact hi)
  have C : ∀ (τ : eS) (i : Int), fr rgH σ τ → 0 ≤ i ∧ i < n → MtL shB M_Mo_columnOf [vr 0, vi s, vi i] τ (fun σ' z => σ' = τ ∧ z = colB σ s i) := fun τ i g hi => by
    obtain ⟨x1, x2, x3, x4, x5⟩ := E τ g
    rw [← x5]; exact s_Mo_columnOf x1 ⟨u1, u2⟩ (by rw [x2]; exact hi)
  refine ok_aload_n 0 rfl rfl rfl (ok_getR 1 rfl rfl fl_X12_7 rfl rfl (ok_iload_n 2 rfl rfl rfl (ok_iald 3 rfl rfl rfl (by first | omega | (simp [up_if]; omega) | (simp [up_if] at *; omega)) ?_)))
  rw [← en]
  refine ok_ist2 4 rfl rfl rfl (ok_lconst (w := 0) 5 rfl rfl rfl (by decide) (ok_lst3 6 rfl rfl rfl (ok_iconst 7 rfl rfl (by decide) (ok_ist5 8 rfl rfl rfl (ok_iconst 9 rfl rfl (by decide) (ok_ist6 10 rfl rfl rfl ?_))))))
  refine lpO4 (fun (t v i : Int) (_ : eS) => [some (vr 0), some (vi s), some (vi n), some (vl t), none, some (vi v), some (vi i), none, none, none]) (fun _ _ _ ρ => ρ) (fun t v i ρ => 0 ≤ i ∧ i ≤ n ∧ fr rgH σ ρ ∧ 0 ≤ t ∧ t ≤ 799999992 * i ∧ lhP n b R ρ i ∧ ∃ G, v = wr G ∧ t = b * G + sm (fun i => sm (fun j => R i j) n.toNat) i.toNat ∧ b * G ≤ t ∧ t ≤ b * G + 8 * i * (b - 1)) (fun _ _ i _ => (n - i).toNat) ?_ 0 0 0 σ ⟨by omega, by omega, fr.rf, by omega, by omega, fun k a c => by omega, 0, rfl, by rw [Int.mul_zero]; rfl, by omega, by omega⟩
  rintro t v i ρ ⟨i1, i2, f, t1, t2, lb, G, ev, G0, G1, G2⟩ ih
  have ts := sm_s (fun i => sm (fun j => R i j) n.toNat) i1
  have e2 : ρ 2 s = b := by rw [f 2 s (by simp [rgH]), eb]
  refine ok_iload 11 rfl rfl rfl (ok_iload_n 12 rfl rfl rfl (ok_icmp_ge 13 223 rfl rfl rfl (fun h18 => ?_) (fun h18 => ?_)))
  · have ei : i = n := by omega
    have q0 := fl_div hb.1 (show 0 ≤ 8 * i by omega) G1 G2
    obtain ⟨q1, q2⟩ := q0
    refine ok_aload_n 130 rfl rfl rfl (ok_getR 131 rfl rfl fl_X12_57 rfl rfl (ok_bipush 132 rfl rfl (by decide) (by decide) (ok_lload_n 133 rfl rfl rfl (ok_aload_n 134 rfl rfl rfl (ok_getR 135 rfl rfl fl_X12_13 rfl rfl (ok_iload_n 136 rfl rfl rfl (ok_iald 137 rfl rfl rfl (by first | omega | (simp [up_if]; omega) | (simp [up_if] at *; omega)) ?_)))))))
    rw [e2]
    refine ok_callSI (M' := M_Mo_cut) (as := [_, _]) 138 rfl rfl ml_X12_323 (s_Mo_cut t1 hb.1) ⟨Nat.le_of_ble_eq_true rfl, Nat.le_of_ble_eq_true rfl⟩ rfl (Nat.le_of_ble_eq_true rfl) (fun σ' z hz => ?_)
    rw [hz.1, hz.2]
    clear hz z σ'
    rw [ev]
    refine ok_iload 139 rfl rfl rfl (ok_isubW 140 rfl rfl ?_)
    rw [wr_sub ⟨by omega, by omega⟩]
    refine ok_iast 141 rfl rfl rfl (by first | omega | (simp [up_if]; omega) | (simp [up_if] at *; omega)) (ok_aload_n 142 rfl rfl rfl (ok_getR 143 rfl rfl fl_X12_60 rfl rfl (ok_bipush 144 rfl rfl (by decide) (by decide) (ok_lload_n 145 rfl rfl rfl (ok_aload_n 146 rfl rfl rfl (ok_getR 147 rfl rfl fl_X12_13 rfl rfl (ok_iload_n 148 rfl rfl rfl (ok_iald 149 rfl rfl rfl (by first | omega | (simp [up_if]; omega) | (simp [up_if] at *; omega)) ?_))))))))
    rw [up15, e2]
    refine ok_callSI (M' := M_Mo_up) (as := [_, _]) 150 rfl rfl ml_X12_327 (s_Mo_up ⟨by omega, by omega⟩ hb) ⟨Nat.le_of_ble_eq_true rfl, Nat.le_of_ble_eq_true rfl⟩ rfl (Nat.le_of_ble_eq_true rfl) (fun σ' z hz => ?_)
    rw [hz.1, hz.2]
    clear hz z σ'
    refine ok_iload 151 rfl rfl rfl (ok_isubW 152 rfl rfl ?_)
    rw [wr_sub ⟨by omega, by omega⟩]
    refine ok_iast 153 rfl rfl rfl (by first | omega | (simp [up_if]; omega) | (simp [up_if] at *; omega)) (ok_vret 154 rfl rfl rfl ?_)
    refine ⟨rfl, fr_up (fr_up f (by simp [rgH])) (by simp [rgH]), fun k k1 k2 => ?_, ?_⟩
    · simp only [up_if]
      rw [if_neg (by omega), if_neg (by omega), if_neg (by omega), if_neg (by omega), if_neg (by omega), if_neg (by omega), if_neg (by omega), if_neg (by omega)]
      exact lb k k1 (by omega)
    · have yt := lo_ex (G := G) (r := sm (fun i => sm (fun j => R i j) n.toNat) i.toNat) hb.1
      rw [← G0, ei] at yt
      refine ⟨?_, ?_⟩
      · rw [up_ne _ _ _ _ (by decide), up_same]; exact yt.1
      · rw [up_same]; exact yt.2
  · refine ok_iconst 14 rfl rfl (by decide) (ok_ist7 15 rfl rfl rfl (ok_iconst 16 rfl rfl (by decide) (ok_ist8 17 rfl rfl rfl (ok_iconst 18 rfl rfl (by decide) (ok_ist9 19 rfl rfl rfl ?_)))))
    have il : i < n := by omega
    refine lpO3 (fun (a c j : Int) => [some (vr 0), some (vi s), some (vi n), some (vl t), none, some (vi v), some (vi i), some (vi a), some (vi c), some (vi j)]) (fun _ _ _ => ρ) (fun a c j => 0 ≤ j ∧ j ≤ n ∧ a = sm (fun k => cB σ s i k / b) j.toNat ∧ c = sm (fun k => cB σ s k i / b) j.toNat) (fun _ _ j => (n - j).toNat) ?_ 0 0 0 ⟨by omega, by omega, rfl, rfl⟩
    rintro a c j ⟨j1, j2, ea, ec⟩ ih2
    have sa := sm_bd (f := fun k => cB σ s i k / b) (B := 99999999) (by decide) (n := j.toNat) (fun k a c => div_bd (cB_bd hB ⟨u1, u2⟩ ⟨by omega, by omega⟩ ⟨by omega, by omega⟩) hb.1)
    have sc := sm_bd (f := fun k => cB σ s k i / b) (B := 99999999) (by decide) (n := j.toNat) (fun k a c => div_bd (cB_bd hB ⟨u1, u2⟩ ⟨by omega, by omega⟩ ⟨by omega, by omega⟩) hb.1)
    rw [← ea] at sa
    rw [← ec] at sc
    refine ok_iload 20 rfl rfl rfl (ok_iload_n 21 rfl rfl rfl (ok_icmp_ge 22 90 rfl rfl rfl (fun h33 => ?_) (fun h33 => ?_)))
    · have ej : j = n := by omega
      have rb := rowB_bd hB ⟨u1, u2⟩ (i := i) ⟨by omega, by omega⟩
      have cb := colB_bd hB ⟨u1, u2⟩ (j := i) ⟨by omega, by omega⟩
      have fr1 := fl_sum (f := fun k => cB σ s i k) hb.1 (n := n.toNat) (fun k a c => (cB_bd hB ⟨u1, u2⟩ (i := i) (j := k) ⟨by omega, by omega⟩ ⟨by omega, by omega⟩).1)
      have fc1 := fl_sum (f := fun k => cB σ s k i) hb.1 (n := n.toNat) (fun k a c => (cB_bd hB ⟨u1, u2⟩ (i := k) (j := i) ⟨by omega, by omega⟩ ⟨by omega, by omega⟩).1)
      have er : sm (fun k => cB σ s i k) n.toNat = rowB σ s i := by unfold rowB; rw [en]
      have el : sm (fun k => cB σ s k i) n.toNat = colB σ s i := by unfold colB; rw [en]
      have xr := fl_ex (f := fun k => cB σ s i k) hb.1 n.toNat
      have xc := fl_ex (f := fun k => cB σ s k i) hb.1 n.toNat
      have er2 : sm (fun k => cB σ s i k % b) n.toNat = sm (fun j => R i j) n.toNat := by rw [eR]
      have el2 : sm (fun k => cB σ s k i % b) n.toNat = sm (fun j => R j i) n.toNat := by rw [eR]
      rw [er, er2] at xr
      rw [el, el2] at xc
      rw [er, show ((n.toNat : Nat) : Int) = n by omega] at fr1
      rw [el, show ((n.toNat : Nat) : Int) = n by omega] at fc1
      rw [ej] at ea ec
      rw [← ea] at fr1
      rw [← ec] at fc1
      rw [← ea] at xr
      rw [← ec] at xc
      have yr := lo_ex (G := a) (r := sm (fun j => R i j) n.toNat) hb.1
      have yc := lo_ex (G := c) (r := sm (fun j => R j i) n.toNat) hb.1
      rw [← xr] at yr
      rw [← xc] at yc
      obtain ⟨q1, q2⟩ := fl_div hb.1 (by omega) fr1.1 fr1.2
      obtain ⟨q3, q4⟩ := fl_div hb.1 (by omega) fc1.1 fc1.2
      have w1 := wr_id (z := rowB σ s i / b) ⟨by omega, by omega⟩
      have w2 := wr_id (z := (rowB σ s i + b - 1) / b) ⟨by omega, by omega⟩
      have w3 := wr_id (z := colB σ s i / b) ⟨by omega, by omega⟩
      have w4 := wr_id (z := (colB σ s i + b - 1) / b) ⟨by omega, by omega⟩
      clear ih2
      refine ok_aload_n 53 rfl rfl rfl (ok_getR 54 rfl rfl fl_X12_57 rfl rfl (ok_iload 55 rfl rfl rfl (ok_aload_n 56 rfl rfl rfl (ok_iload_n 57 rfl rfl rfl (ok_iload 58 rfl rfl rfl (ok_callVL (M' := M_Mo_rowOf) (as := [_, _]) 59 rfl rfl ml_X12_114 (RO _ _ f ⟨by omega, by omega⟩) rfl rfl (Nat.le_of_ble_eq_true rfl) ⟨Nat.le_of_ble_eq_true rfl, Nat.le_of_ble_eq_true rfl⟩ rfl (Nat.le_of_ble_eq_true rfl) (fun σ' z hz => ?_)))))))
      rw [hz.1, hz.2]
      clear hz z σ'
      refine ok_aload_n 60 rfl rfl rfl (ok_getR 61 rfl rfl fl_X12_13 rfl rfl (ok_iload_n 62 rfl rfl rfl (ok_iald 63 rfl rfl rfl (by first | omega | (simp [up_if]; omega) | (simp [up_if] at *; omega)) ?_)))
      rw [e2]
      refine ok_callSI (M' := M_Mo_cut) (as := [_, _]) 64 rfl rfl ml_X12_323 (s_Mo_cut rb.1 hb.1) ⟨Nat.le_of_ble_eq_true rfl, Nat.le_of_ble_eq_true rfl⟩ rfl (Nat.le_of_ble_eq_true rfl) (fun σ' z hz => ?_)
      rw [hz.1, hz.2]
      clear hz z σ'
      rw [w1]
      refine ok_iload 65 rfl rfl rfl (ok_isub 66 rfl rfl (by first | omega | (simp [up_if]; omega) | (simp [up_if] at *; omega)) (ok_iast 67 rfl rfl rfl (by first | omega | (simp [up_if]; omega) | (simp [up_if] at *; omega)) (ok_aload_n 68 rfl rfl rfl (ok_getR 69 rfl rfl fl_X12_60 rfl rfl (ok_iload 70 rfl rfl rfl (ok_aload_n 71 rfl rfl rfl (ok_iload_n 72 rfl rfl rfl (ok_iload 73 rfl rfl rfl (ok_callVL (M' := M_Mo_rowOf) (as := [_, _]) 74 rfl rfl ml_X12_114 (RO _ _ (fr_up f (by simp [rgH])) ⟨by omega, by omega⟩) rfl rfl (Nat.le_of_ble_eq_true rfl) ⟨Nat.le_of_ble_eq_true rfl, Nat.le_of_ble_eq_true rfl⟩ rfl (Nat.le_of_ble_eq_true rfl) (fun σ' z hz => ?_))))))))))
      rw [hz.1, hz.2]
      clear hz z σ'
      refine ok_aload_n 75 rfl rfl rfl (ok_getR 76 rfl rfl fl_X12_13 rfl rfl (ok_iload_n 77 rfl rfl rfl (ok_iald 78 rfl rfl rfl (by first | omega | (simp [up_if]; omega) | (simp [up_if] at *; omega)) ?_)))
      rw [up15, e2]
      refine ok_callSI (M' := M_Mo_up) (as := [_, _]) 79 rfl rfl ml_X12_327 (s_Mo_up ⟨by omega, by omega⟩ hb) ⟨Nat.le_of_ble_eq_true rfl, Nat.le_of_ble_eq_true rfl⟩ rfl (Nat.le_of_ble_eq_true rfl) (fun σ' z hz => ?_)
      rw [hz.1, hz.2]
      clear hz z σ'
      rw [w2]
      refine ok_iload 80 rfl rfl rfl (ok_isub 81 rfl rfl (by first | omega | (simp [up_if]; omega) | (simp [up_if] at *; omega)) (ok_iast 82 rfl rfl rfl (by first | omega | (simp [up_if]; omega) | (simp [up_if] at *; omega)) (ok_aload_n 83 rfl rfl rfl (ok_getR 84 rfl rfl fl_X12_57 rfl rfl (ok_bipush 85 rfl rfl (by decide) (by decide) (ok_iload 86 rfl rfl rfl (ok_iadd 87 rfl rfl (by first | omega | (simp [up_if]; omega) | (simp [up_if] at *; omega)) (ok_aload_n 88 rfl rfl rfl (ok_iload_n 89 rfl rfl rfl (ok_iload 90 rfl rfl rfl (ok_callVL (M' := M_Mo_columnOf) (as := [_, _]) 91 rfl rfl ml_X12_122 (C _ _ (fr_up (fr_up f (by simp [rgH])) (by simp [rgH])) ⟨by omega, by omega⟩) rfl rfl (Nat.le_of_ble_eq_true rfl) ⟨Nat.le_of_ble_eq_true rfl, Nat.le_of_ble_eq_true rfl⟩ rfl (Nat.le_of_ble_eq_true rfl) (fun σ' z hz => ?_))))))))))))
      rw [hz.1, hz.2]
      clear hz z σ'
      refine ok_aload_n 92 rfl rfl rfl (ok_getR 93 rfl rfl fl_X12_13 rfl rfl (ok_iload_n 94 rfl rfl rfl (ok_iald 95 rfl rfl rfl (by first | omega | (simp [up_if]; omega) | (simp [up_if] at *; omega)) ?_)))
      rw [up16, up15, e2]
      refine ok_callSI (M' := M_Mo_cut) (as := [_, _]) 96 rfl rfl ml_X12_323 (s_Mo_cut cb.1 hb.1) ⟨Nat.le_of_ble_eq_true rfl, Nat.le_of_ble_eq_true rfl⟩ rfl (Nat.le_of_ble_eq_true rfl) (fun σ' z hz => ?_)
      rw [hz.1, hz.2]
      clear hz z σ'
      rw [w3]
      refine ok_iload 97 rfl rfl rfl (ok_isub 98 rfl rfl (by first | omega | (simp [up_if]; omega) | (simp [up_if] at *; omega)) (ok_iast 99 rfl rfl rfl (by first | omega | (simp [up_if]; omega) | (simp [up_if] at *; omega)) (ok_aload_n 100 rfl rfl rfl (ok_getR 101 rfl rfl fl_X12_60 rfl rfl (ok_bipush 102 rfl rfl (by decide) (by decide) (ok_iload 103 rfl rfl rfl (ok_iadd 104 rfl rfl (by first | omega | (simp [up_if]; omega) | (simp [up_if] at *; omega)) (ok_aload_n 105 rfl rfl rfl (ok_iload_n 106 rfl rfl rfl (ok_iload 107 rfl rfl rfl (ok_callVL (M' := M_Mo_columnOf) (as := [_, _]) 108 rfl rfl ml_X12_122 (C _ _ (fr_up (fr_up (fr_up f (by simp [rgH])) (by simp [rgH])) (by simp [rgH])) ⟨by omega, by omega⟩) rfl rfl (Nat.le_of_ble_eq_true rfl) ⟨Nat.le_of_ble_eq_true rfl, Nat.le_of_ble_eq_true rfl⟩ rfl (Nat.le_of_ble_eq_true rfl) (fun σ' z hz => ?_))))))))))))
      rw [hz.1, hz.2]
      clear hz z σ'
      refine ok_aload_n 109 rfl rfl rfl (ok_getR 110 rfl rfl fl_X12_13 rfl rfl (ok_iload_n 111 rfl rfl rfl (ok_iald 112 rfl rfl rfl (by first | omega | (simp [up_if]; omega) | (simp [up_if] at *; omega)) ?_)))
      rw [up15, up16, up15, e2]
      refine ok_callSI (M' := M_Mo_up) (as := [_, _]) 113 rfl rfl ml_X12_327 (s_Mo_up ⟨by omega, by omega⟩ hb) ⟨Nat.le_of_ble_eq_true rfl, Nat.le_of_ble_eq_true rfl⟩ rfl (Nat.le_of_ble_eq_true rfl) (fun σ' z hz => ?_)
      rw [hz.1, hz.2]
      clear hz z σ'
      rw [w4]
      refine ok_iload 114 rfl rfl rfl (ok_isub 115 rfl rfl (by first | omega | (simp [up_if]; omega) | (simp [up_if] at *; omega)) (ok_iast 116 rfl rfl rfl (by first | omega | (simp [up_if]; omega) | (simp [up_if] at *; omega)) (ok_lload_n 117 rfl rfl rfl (ok_aload_n 118 rfl rfl rfl (ok_iload_n 119 rfl rfl rfl (ok_iload 120 rfl rfl rfl (ok_callVL (M' := M_Mo_rowOf) (as := [_, _]) 121 rfl rfl ml_X12_114 (RO _ _ (fr_up (fr_up (fr_up (fr_up f (by simp [rgH])) (by simp [rgH])) (by simp [rgH])) (by simp [rgH])) ⟨by omega, by omega⟩) rfl rfl (Nat.le_of_ble_eq_true rfl) ⟨Nat.le_of_ble_eq_true rfl, Nat.le_of_ble_eq_true rfl⟩ rfl (Nat.le_of_ble_eq_true rfl) (fun σ' z hz => ?_))))))))
      rw [hz.1, hz.2]
      clear hz z σ'
      refine ok_ladd 122 rfl rfl (by first | omega | (simp [up_if]; omega) | (simp [up_if] at *; omega)) (ok_lst3 123 rfl rfl rfl (ok_iload 124 rfl rfl rfl (ok_iload 125 rfl rfl rfl (ok_iaddW 126 rfl rfl (ok_ist5 127 rfl rfl rfl (ok_inc6 128 rfl rfl rfl (by first | omega | (simp [up_if]; omega) | (simp [up_if] at *; omega)) (ok_goto 129 15 rfl rfl rfl ?_)))))))
      refine ok_fg [some (vr 0), some (vi s), some (vi n), some (vl _), none, some (vi _), some (vi (i + 1)), none, none, none] ⟨rfl, rfl, rfl, rfl, rfl, rfl, trivial⟩ (ih _ _ (i + 1) _ ⟨by omega, by omega, fr_up (fr_up (fr_up (fr_up f (by simp [rgH])) (by simp [rgH])) (by simp [rgH])) (by simp [rgH]), by omega, by omega, fun k k1 k2 => ?_, G + a, by rw [ev, wr_add], ?_, ?_, ?_⟩ (by omega))
      · by_cases y1 : k = i
        · rw [y1]
          refine ⟨?_, ?_, ?_, ?_⟩
          · rw [up_ne _ _ _ _ (by decide), up_nk _ _ _ _ (by omega), up_ne _ _ _ _ (by decide), up_same]; exact yr.1
          · rw [up_nk _ _ _ _ (by omega), up_ne _ _ _ _ (by decide), up_same]; exact yr.2
          · rw [up_ne _ _ _ _ (by decide), up_same]; exact yc.1
          · rw [up_same]; exact yc.2
        · simp only [up_if]
          rw [if_neg (by omega), if_neg (by omega), if_neg (by omega), if_neg (by omega), if_neg (by omega), if_neg (by omega), if_neg (by omega), if_neg (by omega), if_neg (by omega), if_neg (by omega), if_neg (by omega), if_neg (by omega), if_neg (by omega), if_neg (by omega), if_neg (by omega), if_neg (by omega)]
          exact lb k k1 (by omega)
      · rw [ts, Int.mul_add]; omega
      · rw [Int.mul_add]; omega
      · have m1 : n * (b - 1) ≤ 8 * (b - 1) := Int.mul_le_mul_of_nonneg_right (by omega) (by omega)
        rw [Int.mul_add, show 8 * (i + 1) * (b - 1) = 8 * i * (b - 1) + 8 * (b - 1) by rw [Int.mul_add, Int.add_mul]; omega]
        omega
    · have d1 := div_bd (cB_bd hB ⟨u1, u2⟩ (i := i) (j := j) ⟨by omega, by omega⟩ ⟨by omega, by omega⟩) hb.1
      have d2 := div_bd (cB_bd hB ⟨u1, u2⟩ (i := j) (j := i) ⟨by omega, by omega⟩ ⟨by omega, by omega⟩) hb.1
      have d3 := cB_bd hB ⟨u1, u2⟩ (i := i) (j := j) ⟨by omega, by omega⟩ ⟨by omega, by omega⟩
      have d4 := cB_bd hB ⟨u1, u2⟩ (i := j) (j := i) ⟨by omega, by omega⟩ ⟨by omega, by omega⟩
      have w1 := wr_id (z := cB σ s i j / b) ⟨by omega, by omega⟩
      have w2 := wr_id (z := cB σ s j i / b) ⟨by omega, by omega⟩
      have s1 := sm_s (fun k => cB σ s i k / b) j1
      have s2 := sm_s (fun k => cB σ s k i / b) j1
      refine ok_iload 23 rfl rfl rfl (ok_aload_n 24 rfl rfl rfl (ok_iload_n 25 rfl rfl rfl (ok_iload 26 rfl rfl rfl (ok_iload 27 rfl rfl rfl (ok_callVI (M' := M_Mo_at) (as := [_, _, _]) 28 rfl rfl ml_X12_107 (A _ _ _ f ⟨by omega, by omega⟩ ⟨by omega, by omega⟩) rfl rfl (Nat.le_of_ble_eq_true rfl) ⟨Nat.le_of_ble_eq_true rfl, Nat.le_of_ble_eq_true rfl⟩ rfl (Nat.le_of_ble_eq_true rfl) (fun σ' z hz => ?_))))))
      rw [hz.1, hz.2]
      clear hz z σ'
      refine ok_i2l 29 rfl rfl (ok_aload_n 30 rfl rfl rfl (ok_getR 31 rfl rfl fl_X12_13 rfl rfl (ok_iload_n 32 rfl rfl rfl (ok_iald 33 rfl rfl rfl (by first | omega | (simp [up_if]; omega) | (simp [up_if] at *; omega)) ?_))))
      rw [e2]
      refine ok_callSI (M' := M_Mo_cut) (as := [_, _]) 34 rfl rfl ml_X12_323 (s_Mo_cut d3.1 hb.1) ⟨Nat.le_of_ble_eq_true rfl, Nat.le_of_ble_eq_true rfl⟩ rfl (Nat.le_of_ble_eq_true rfl) (fun σ' z hz => ?_)
      rw [hz.1, hz.2]
      clear hz z σ'
      rw [w1]
      refine ok_iadd 35 rfl rfl (by first | omega | (simp [up_if]; omega) | (simp [up_if] at *; omega)) (ok_ist7 36 rfl rfl rfl (ok_iload 37 rfl rfl rfl (ok_aload_n 38 rfl rfl rfl (ok_iload_n 39 rfl rfl rfl (ok_iload 40 rfl rfl rfl (ok_iload 41 rfl rfl rfl (ok_callVI (M' := M_Mo_at) (as := [_, _, _]) 42 rfl rfl ml_X12_107 (A _ _ _ f ⟨by omega, by omega⟩ ⟨by omega, by omega⟩) rfl rfl (Nat.le_of_ble_eq_true rfl) ⟨Nat.le_of_ble_eq_true rfl, Nat.le_of_ble_eq_true rfl⟩ rfl (Nat.le_of_ble_eq_true rfl) (fun σ' z hz => ?_))))))))
      rw [hz.1, hz.2]
      clear hz z σ'
      refine ok_i2l 43 rfl rfl (ok_aload_n 44 rfl rfl rfl (ok_getR 45 rfl rfl fl_X12_13 rfl rfl (ok_iload_n 46 rfl rfl rfl (ok_iald 47 rfl rfl rfl (by first | omega | (simp [up_if]; omega) | (simp [up_if] at *; omega)) ?_))))
      rw [e2]
      refine ok_callSI (M' := M_Mo_cut) (as := [_, _]) 48 rfl rfl ml_X12_323 (s_Mo_cut d4.1 hb.1) ⟨Nat.le_of_ble_eq_true rfl, Nat.le_of_ble_eq_true rfl⟩ rfl (Nat.le_of_ble_eq_true rfl) (fun σ' z hz => ?_)
      rw [hz.1, hz.2]
      clear hz z σ'
      rw [w2]
      refine ok_iadd 49 rfl rfl (by first | omega | (simp [up_if]; omega) | (simp [up_if] at *; omega)) (ok_ist8 50 rfl rfl rfl (ok_inc9 51 rfl rfl rfl (by first | omega | (simp [up_if]; omega) | (simp [up_if] at *; omega)) (ok_goto 52 30 rfl rfl rfl ?_)))
      exact ih2 _ _ (j + 1) ⟨by omega, by omega, by rw [s1, ea], by rw [s2, ec]⟩ (by omega)
end
