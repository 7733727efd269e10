section
/-! ROUNDED, the reference: cell by cell the first way that can be kept -/
theorem ix_at {n k : Int} (hn : 1 ≤ n) (hk : 0 ≤ k ∧ k < n * n) : ∃ i j, (0 ≤ i ∧ i < n) ∧ (0 ≤ j ∧ j < n) ∧ k = n * i + j :=
  ⟨k / n, k % n, ⟨Int.ediv_nonneg hk.1 (by omega), Int.ediv_lt_of_lt_mul (by omega) hk.2⟩, ⟨Int.emod_nonneg _ (by omega), Int.emod_lt_of_pos _ (by omega)⟩, (Int.mul_ediv_add_emod k n).symm⟩
theorem cel_lh {b r : Int} (hr : 0 ≤ r ∧ r < b) : loB' b r = 0 ∧ hiB' b r = if r = 0 then 0 else 1 := by
  have z : r / b = 0 := Int.ediv_eq_zero_of_lt hr.1 hr.2
  have m : r % b = r := Int.emod_eq_of_lt hr.1 hr.2
  unfold loB' hiB'
  rw [m, z]
  refine ⟨rfl, ?_⟩
  split <;> rfl
section K36
variable {n b : Int} {R : Int → Int → Int}
theorem kp_mid {ρ : eS} {i j : Int} (hn : n ≤ 8) (hi : 0 ≤ i ∧ i < n) (hj : 0 ≤ j ∧ j < n) : kL ρ n (1 + i) (9 + j) = (if ρ 14 (n * i + j) = 1 then 1 else 0) ∧ kH ρ n (1 + i) (9 + j) = if 0 < ρ 14 (n * i + j) then 1 else 0 := by
  refine ⟨?_, ?_⟩
  · unfold kL riF
    rw [if_neg (show ¬ (1 + i = 0 ∧ 1 ≤ 9 + j ∧ 9 + j < 1 + n) by omega), if_pos (show (1 ≤ 1 + i ∧ 1 + i < 1 + n) ∧ 9 ≤ 9 + j ∧ 9 + j < 9 + n by omega)]
    show (if ρ 14 (n * (1 + i - 1) + (9 + j - 9)) = 1 then (1 : Int) else 0) = _
    rw [show 1 + i - 1 = i by omega, show 9 + j - 9 = j by omega]
  · unfold kH riF
    rw [if_neg (show ¬ (1 + i = 0 ∧ 1 ≤ 9 + j ∧ 9 + j < 1 + n) by omega), if_pos (show (1 ≤ 1 + i ∧ 1 + i < 1 + n) ∧ 9 ≤ 9 + j ∧ 9 + j < 9 + n by omega)]
    show (if 0 < ρ 14 (n * (1 + i - 1) + (9 + j - 9)) then (1 : Int) else 0) = _
    rw [show 1 + i - 1 = i by omega, show 9 + j - 9 = j by omega]
theorem kp_fit {ρ : eS} (hn : 1 ≤ n ∧ n ≤ 8) (hR : ∀ i j, 0 ≤ i → i < n → 0 ≤ j → j < n → 0 ≤ R i j ∧ R i j < b) (hE : lhE n b R ρ) (hF : ∀ i j, 0 ≤ i → i < n → 0 ≤ j → j < n → 0 ≤ ρ 14 (n * i + j) ∧ (R i j = 0 → ρ 14 (n * i + j) = 0)) : kpY ρ n ↔ ∃ y, fitR n b R y ∧ ∀ i j, 0 ≤ i → i < n → 0 ≤ j → j < n → (ρ 14 (n * i + j) = 0 → y i j = 0) ∧ (ρ 14 (n * i + j) = 1 → y i j = 1) := by
  have n0 : 0 ≤ n ∧ n ≤ 8 := ⟨by omega, hn.2⟩
  constructor
  · rintro ⟨Y, c, bd⟩
    have LK : ∀ v w, LOf n b R v w ≤ kL ρ n v w := fun v w => by
      unfold LOf kL
      refine rg_all (P := fun x y _ => x ≤ y) (s3 := fun _ => 0) (m3 := fun _ _ => 0) (k3 := fun _ => 0) (a3 := 0) (fun i a c => ?_) (fun i j a c d e => ?_) (fun j a c => ?_) ?_ (Int.le_refl _) v w
      · (try dsimp only); rw [(hE.1 i a c).1]; exact Int.le_refl _
      · (try dsimp only); rw [(cel_lh (hR i j a c d e)).1]; split <;> omega
      · (try dsimp only); rw [(hE.1 j a c).2.2.1]; exact Int.le_refl _
      · (try dsimp only); rw [hE.2.1]; exact Int.le_refl _
    have HK : ∀ v w, kH ρ n v w ≤ HIf n b R v w := fun v w => by
      unfold HIf kH
      refine rg_all (P := fun x y _ => x ≤ y) (s3 := fun _ => 0) (m3 := fun _ _ => 0) (k3 := fun _ => 0) (a3 := 0) (fun i a c => ?_) (fun i j a c d e => ?_) (fun j a c => ?_) ?_ (Int.le_refl _) v w
      · (try dsimp only); rw [(hE.1 i a c).2.1]; exact Int.le_refl _
      · (try dsimp only)
        rw [(cel_lh (hR i j a c d e)).2]
        have q := hF i j a c d e
        by_cases r : R i j = 0
        · rw [if_pos r, q.2 r, if_neg (by omega)]; exact Int.le_refl _
        · rw [if_neg r]; split <;> omega
      · (try dsimp only); rw [(hE.1 j a c).2.2.2]; exact Int.le_refl _
      · (try dsimp only); rw [hE.2.2]; exact Int.le_refl _
    have hf := rg_fit (b := b) (R := R) n0 c (fun v w v1 v2 w1 w2 => ⟨Int.le_trans (LK v w) (bd v w v1 v2 w1 w2).1, Int.le_trans (bd v w v1 v2 w1 w2).2 (HK v w)⟩)
    refine ⟨_, hf.1, fun i j a c d e => ?_⟩
    have q := bd (1 + i) (9 + j) (by omega) (by omega) (by omega) (by omega)
    obtain ⟨m1, m2⟩ := kp_mid (ρ := ρ) hn.2 ⟨a, c⟩ ⟨d, e⟩
    rw [m1, m2] at q
    (try dsimp only)
    refine ⟨fun u => ?_, fun u => ?_⟩
    · rw [u, if_neg (by omega), if_neg (by omega)] at q; omega
    · rw [u, if_pos rfl, if_pos (by omega)] at q; omega
  · rintro ⟨y, fy, cy⟩
    refine ⟨rgZ n y, rgZ_cir n0, fun v w _ _ _ _ => ?_⟩
    unfold kL kH rgZ
    refine rg_all (P := fun x y z => x ≤ y ∧ y ≤ z) (fun i a c => ?_) (fun i j a c d e => ?_) (fun j a c => ?_) ?_ ⟨Int.le_refl _, Int.le_refl _⟩ v w
    · (try dsimp only); rw [(hE.1 i a c).1, (hE.1 i a c).2.1]; exact fy.2.1 i a c
    · (try dsimp only)
      have q := fy.1 i j a c d e
      have k := cel_lh (hR i j a c d e)
      rw [k.1, k.2] at q
      obtain ⟨c1, c2⟩ := cy i j a c d e
      have p := hF i j a c d e
      have q2 : y i j ≤ 1 := by have := q.2; split at this <;> omega
      by_cases u : ρ 14 (n * i + j) = 1
      · rw [if_pos u, if_pos (by omega), c2 u]; exact ⟨Int.le_refl _, Int.le_refl _⟩
      · rw [if_neg u]
        by_cases w : ρ 14 (n * i + j) = 0
        · rw [if_neg (by omega), c1 w]; exact ⟨Int.le_refl _, Int.le_refl _⟩
        · rw [if_pos (by omega)]; exact ⟨q.1, q2⟩
    · (try dsimp only); rw [(hE.1 j a c).2.2.1, (hE.1 j a c).2.2.2]; exact fy.2.2.1 j a c
    · (try dsimp only); rw [hE.2.1, hE.2.2]; exact fy.2.2.2
/-- the cells before k are laid down, the first way -/
def fkI (n b : Int) (R : Int → Int → Int) (ρ : eS) (k : Int) : Prop :=
  (∀ i j, 0 ≤ i → i < n → 0 ≤ j → j < n → (n * i + j < k → 0 ≤ ρ 14 (n * i + j) ∧ ρ 14 (n * i + j) ≤ 1 ∧ (R i j = 0 → ρ 14 (n * i + j) = 0)) ∧ (k ≤ n * i + j → ρ 14 (n * i + j) = if R i j = 0 then 0 else 2)) ∧
  ((∃ y, fitR n b R y) → (∃ y, fitR n b R y ∧ ∀ i j, 0 ≤ i → i < n → 0 ≤ j → j < n → n * i + j < k → y i j = ρ 14 (n * i + j)) ∧ frst n b R (fun i j => ρ 14 (n * i + j)) k)
theorem fkI_0 {ρ : eS} (hn : 1 ≤ n ∧ n ≤ 8) (h : ∀ i j, 0 ≤ i → i < n → 0 ≤ j → j < n → ρ 14 (n * i + j) = if R i j = 0 then 0 else 2) : fkI n b R ρ 0 := by
  have no : ∀ i j, 0 ≤ i → i < n → 0 ≤ j → j < n → ¬ n * i + j < 0 := fun i j a c d e => by
    have := ix8 (n := n) (i := i) (j := j) ⟨by omega, hn.2⟩ ⟨a, c⟩ ⟨d, e⟩
    omega
  refine ⟨fun i j a c d e => ⟨fun q => absurd q (no i j a c d e), fun _ => h i j a c d e⟩, fun hy => ⟨?_, fun i j a c d e q => absurd q (no i j a c d e)⟩⟩
  obtain ⟨y, hy⟩ := hy
  exact ⟨y, hy, fun i j a c d e q => absurd q (no i j a c d e)⟩
theorem fkI_s {i j z : Int} {ρ τ : eS} (hn : 1 ≤ n ∧ n ≤ 8) (hi : 0 ≤ i ∧ i < n) (hj : 0 ≤ j ∧ j < n) (h : fkI n b R ρ (n * i + j)) (e : ∀ p, τ 14 p = if p = n * i + j then z else ρ 14 p) (hz : 0 ≤ z ∧ z ≤ 1) (hz0 : R i j = 0 → z = 0) (ext : (∃ y, fitR n b R y) → ∃ y, fitR n b R y ∧ (∀ i' j', 0 ≤ i' → i' < n → 0 ≤ j' → j' < n → n * i' + j' < n * i + j → y i' j' = ρ 14 (n * i' + j')) ∧ y i j = z) (mn : ∀ y, fitR n b R y → (∀ i' j', 0 ≤ i' → i' < n → 0 ≤ j' → j' < n → n * i' + j' < n * i + j → y i' j' = ρ 14 (n * i' + j')) → z ≤ y i j) : fkI n b R τ (n * i + j + 1) := by
  have last : ∀ i' j', 0 ≤ i' → i' < n → 0 ≤ j' → j' < n → n * i' + j' < n * i + j + 1 → n * i' + j' < n * i + j ∨ (i' = i ∧ j' = j) := fun i' j' b1 b2 b3 b4 b5 => by
    rcases (by omega : n * i' + j' < n * i + j ∨ n * i' + j' = n * i + j) with q | q
    · exact Or.inl q
    · exact Or.inr (ix_inj hn ⟨b3, b4⟩ hj q)
  have at0 : τ 14 (n * i + j) = z := by rw [e, if_pos rfl]
  have at1 : ∀ p, p ≠ n * i + j → τ 14 p = ρ 14 p := fun p q => by rw [e, if_neg q]
  refine ⟨fun i' j' a c d f => ⟨fun q => ?_, fun q => ?_⟩, fun hy => ?_⟩
  · rcases last i' j' a c d f q with w | ⟨w1, w2⟩
    · rw [at1 _ (by omega)]; exact (h.1 i' j' a c d f).1 w
    · rw [w1, w2, at0]; exact ⟨hz.1, hz.2, hz0⟩
  · rw [at1 _ (by omega)]; exact (h.1 i' j' a c d f).2 (by omega)
  · obtain ⟨-, fs⟩ := h.2 hy
    obtain ⟨y, y1, y2, y3⟩ := ext hy
    refine ⟨⟨y, y1, fun i' j' a c d f q => ?_⟩, fun i' j' a c d f q y' g1 g2 => ?_⟩
    · rcases last i' j' a c d f q with w | ⟨w1, w2⟩
      · rw [at1 _ (by omega)]; exact y2 i' j' a c d f w
      · rw [w1, w2, at0]; exact y3
    · (try dsimp only)
      rcases last i' j' a c d f q with w | ⟨w1, w2⟩
      · rw [at1 _ (by omega)]
        exact fs i' j' a c d f w y' g1 (fun u v p1 p2 p3 p4 p5 => by have := g2 u v p1 p2 p3 p4 p5; (try dsimp only at this); rw [this, at1 _ (by omega)])
      · rw [w1, w2, at0]
        rw [w1, w2] at g2
        exact mn y' g1 (fun u v p1 p2 p3 p4 p5 => by have := g2 u v p1 p2 p3 p4 p5; (try dsimp only at this); rw [this, at1 _ (by omega)])
theorem fk_kp {i j : Int} {ρ A : eS} (hn : 1 ≤ n ∧ n ≤ 8) (hi : 0 ≤ i ∧ i < n) (hj : 0 ≤ j ∧ j < n) (hR : ∀ i j, 0 ≤ i → i < n → 0 ≤ j → j < n → 0 ≤ R i j ∧ R i j < b) (h : fkI n b R ρ (n * i + j)) (e : ∀ p, A 14 p = if p = n * i + j then 0 else ρ 14 p) (hE : lhE n b R A) : kpY A n ↔ ∃ y, fitR n b R y ∧ (∀ i' j', 0 ≤ i' → i' < n → 0 ≤ j' → j' < n → n * i' + j' < n * i + j → y i' j' = ρ 14 (n * i' + j')) ∧ y i j = 0 := by
  have at0 : A 14 (n * i + j) = 0 := by rw [e, if_pos rfl]
  have at1 : ∀ p, p ≠ n * i + j → A 14 p = ρ 14 p := fun p q => by rw [e, if_neg q]
  rw [kp_fit hn hR hE (fun i' j' a c d f => by
    by_cases q : n * i' + j' = n * i + j
    · rw [q, at0]; exact ⟨Int.le_refl _, fun _ => rfl⟩
    · rw [at1 _ q]
      obtain ⟨h1, h2⟩ := h.1 i' j' a c d f
      by_cases w : n * i' + j' < n * i + j
      · exact ⟨(h1 w).1, (h1 w).2.2⟩
      · rw [h2 (by omega)]
        refine ⟨by split <;> omega, fun u => by rw [if_pos u]⟩)]
  constructor
  · rintro ⟨y, y1, y2⟩
    refine ⟨y, y1, fun i' j' a c d f q => ?_, (y2 i j hi.1 hi.2 hj.1 hj.2).1 at0⟩
    obtain ⟨p1, p2⟩ := y2 i' j' a c d f
    rw [at1 _ (by omega)] at p1 p2
    have p3 := ((h.1 i' j' a c d f).1 q)
    rcases (by omega : ρ 14 (n * i' + j') = 0 ∨ ρ 14 (n * i' + j') = 1) with w | w
    · rw [w]; exact p1 w
    · rw [w]; exact p2 w
  · rintro ⟨y, y1, y2, y3⟩
    refine ⟨y, y1, fun i' j' a c d f => ?_⟩
    by_cases q : n * i' + j' = n * i + j
    · obtain ⟨x1, x2⟩ := ix_inj hn ⟨d, f⟩ hj q
      rw [q, at0, x1, x2, y3]
      exact ⟨fun _ => rfl, fun u => by omega⟩
    · rw [at1 _ q]
      by_cases w : n * i' + j' < n * i + j
      · rw [y2 i' j' a c d f w]; exact ⟨fun u => u, fun u => u⟩
      · have p := (h.1 i' j' a c d f).2 (by omega)
        rw [p]
        by_cases r : R i' j' = 0
        · have g := y1.1 i' j' a c d f
          have k := cel_lh (hR i' j' a c d f)
          rw [k.1, k.2, if_pos r] at g
          rw [if_pos r]
          exact ⟨fun _ => by omega, fun u => by omega⟩
        · rw [if_neg r]; exact ⟨fun u => by omega, fun u => by omega⟩
/-- a cell that is whole -/
theorem fkI_z {i j : Int} {ρ : eS} (hn : 1 ≤ n ∧ n ≤ 8) (hi : 0 ≤ i ∧ i < n) (hj : 0 ≤ j ∧ j < n) (hR : ∀ i j, 0 ≤ i → i < n → 0 ≤ j → j < n → 0 ≤ R i j ∧ R i j < b) (h : fkI n b R ρ (n * i + j)) (h0 : ρ 14 (n * i + j) = 0) : fkI n b R ρ (n * i + j + 1) := by
  have r0 : R i j = 0 := by
    have := (h.1 i j hi.1 hi.2 hj.1 hj.2).2 (Int.le_refl _)
    rw [h0] at this
    by_cases q : R i j = 0
    · exact q
    · rw [if_neg q] at this; omega
  have k := cel_lh (hR i j hi.1 hi.2 hj.1 hj.2)
  refine fkI_s hn hi hj h (z := 0) (fun p => ?_) ⟨by omega, by omega⟩ (fun _ => rfl) (fun hy => ?_) (fun y y1 _ => ?_)
  · by_cases q : p = n * i + j
    · rw [if_pos q, q, h0]
    · rw [if_neg q]
  · obtain ⟨⟨y, y1, y2⟩, -⟩ := h.2 hy
    refine ⟨y, y1, y2, ?_⟩
    have g := y1.1 i j hi.1 hi.2 hj.1 hj.2
    rw [k.1, k.2, if_pos r0] at g
    omega
  · have g := y1.1 i j hi.1 hi.2 hj.1 hj.2
    rw [k.1] at g
    exact g.1
/-- a cell that can be cut, and one that can't -/
theorem fkI_y {i j : Int} {ρ A τ : eS} (hn : 1 ≤ n ∧ n ≤ 8) (hi : 0 ≤ i ∧ i < n) (hj : 0 ≤ j ∧ j < n) (hR : ∀ i j, 0 ≤ i → i < n → 0 ≤ j → j < n → 0 ≤ R i j ∧ R i j < b) (h : fkI n b R ρ (n * i + j)) (e : ∀ p, A 14 p = if p = n * i + j then 0 else ρ 14 p) (hE : lhE n b R A) (hk : kpY A n) (e2 : ∀ p, τ 14 p = A 14 p) : fkI n b R τ (n * i + j + 1) := by
  have k := cel_lh (hR i j hi.1 hi.2 hj.1 hj.2)
  refine fkI_s hn hi hj h (z := 0) (fun p => by rw [e2, e]) ⟨by omega, by omega⟩ (fun _ => rfl) (fun _ => (fk_kp hn hi hj hR h e hE).mp hk) (fun y y1 _ => ?_)
  have g := y1.1 i j hi.1 hi.2 hj.1 hj.2
  rw [k.1] at g
  exact g.1
theorem fkI_n {i j : Int} {ρ A τ : eS} (hn : 1 ≤ n ∧ n ≤ 8) (hi : 0 ≤ i ∧ i < n) (hj : 0 ≤ j ∧ j < n) (hR : ∀ i j, 0 ≤ i → i < n → 0 ≤ j → j < n → 0 ≤ R i j ∧ R i j < b) (h : fkI n b R ρ (n * i + j)) (h2 : ρ 14 (n * i + j) ≠ 0) (e : ∀ p, A 14 p = if p = n * i + j then 0 else ρ 14 p) (hE : lhE n b R A) (hk : ¬ kpY A n) (e2 : ∀ p, τ 14 p = if p = n * i + j then 1 else A 14 p) : fkI n b R τ (n * i + j + 1) := by
  have r0 : R i j ≠ 0 := fun q => by
    have := (h.1 i j hi.1 hi.2 hj.1 hj.2).2 (Int.le_refl _)
    rw [if_pos q] at this
    exact h2 this
  have k := cel_lh (hR i j hi.1 hi.2 hj.1 hj.2)
  rw [fk_kp hn hi hj hR h e hE] at hk
  have one : ∀ y, fitR n b R y → (∀ i' j', 0 ≤ i' → i' < n → 0 ≤ j' → j' < n → n * i' + j' < n * i + j → y i' j' = ρ 14 (n * i' + j')) → y i j = 1 := fun y y1 y2 => by
    have g := y1.1 i j hi.1 hi.2 hj.1 hj.2
    rw [k.1, k.2, if_neg r0] at g
    have : y i j ≠ 0 := fun q => hk ⟨y, y1, y2, q⟩
    omega
  refine fkI_s hn hi hj h (z := 1) (fun p => ?_) ⟨by omega, by omega⟩ (fun q => absurd q r0) (fun hy => ?_) (fun y y1 y2 => by rw [one y y1 y2]; exact Int.le_refl _)
  · rw [e2, e]
    by_cases q : p = n * i + j
    · rw [if_pos q, if_pos q]
    · rw [if_neg q, if_neg q, if_neg q]
  · obtain ⟨⟨y, y1, y2⟩, -⟩ := h.2 hy
    exact ⟨y, y1, y2, one y y1 y2⟩
end K36
def roT (C : Prop) (n b : Int) (W : Int → Int → Int) (i j z : Int) : Prop := (¬ C ∧ z = -1) ∨ (C ∧ ((∃ y, fitR n b (fun i j => W i j % b) y) → ∃ x : Int → Int → Int, (∃ y, fitR n b (fun i j => W i j % b) y ∧ ∀ i' j', 0 ≤ i' → i' < n → 0 ≤ j' → j' < n → n * i' + j' < n * i + j + 1 → y i' j' = x i' j') ∧ frst n b (fun i j => W i j % b) x (n * i + j + 1) ∧ z = W i j / b + x i j))
theorem roT_mk {C : Prop} {n b i j z : Int} {W R x : Int → Int → Int} (eR : R = fun i j => W i j % b) (hC : C) (h : (∃ y, fitR n b R y) → (∃ y, fitR n b R y ∧ ∀ i' j', 0 ≤ i' → i' < n → 0 ≤ j' → j' < n → n * i' + j' < n * i + j + 1 → y i' j' = x i' j') ∧ frst n b R x (n * i + j + 1)) (ez : z = W i j / b + x i j) : roT C n b W i j z := by
  subst eR
  exact Or.inr ⟨hC, fun q => ⟨x, (h q).1, (h q).2, ez⟩⟩
theorem t_Mo_rounded {σ : eS} {s r c : Int} (hB : iB1 σ) : MtI shB M_Mo_rounded [vr 0, vi s, vi r, vi c] σ (fun σ' z => fr rgN σ σ' ∧ roT (celB σ s r c) (σ 1 s) (σ 2 s) (cB σ s) r c z) := by
  refine Mt.of okM_Mo_rounded (Nat.le_of_ble_eq_true rfl) (fun hk hg => ?_)
  refine ok_aload_n 0 rfl rfl rfl (ok_iload_n 1 rfl rfl rfl (ok_iload_n 2 rfl rfl rfl (ok_iload_n 3 rfl rfl rfl (ok_callVI (M' := M_Mo_isCell) (as := [_, _, _]) 4 rfl rfl ml_X12_211 (s_Mo_isCell hB) rfl rfl (Nat.le_of_ble_eq_true rfl) ⟨Nat.le_of_ble_eq_true rfl, Nat.le_of_ble_eq_true rfl⟩ rfl (Nat.le_of_ble_eq_true rfl) (fun σ' z1 a1 => ?_)))))
  obtain ⟨hs_, a1⟩ := a1
  rw [hs_]; clear hs_ σ'
  refine ok_if_ne 5 12 rfl rfl rfl (fun h7 => ?_) (fun h7 => ?_)
  · have C0 := yes1 a1 h7
    obtain ⟨⟨u1, u2, u3⟩, c1, c2, c3, c4⟩ := id C0
    have tn := hB.1 s u1 u2
    obtain ⟨n, en⟩ : ∃ n, n = σ 1 s := ⟨_, rfl⟩
    obtain ⟨b, eb⟩ : ∃ b, b = σ 2 s := ⟨_, rfl⟩
    have hb : 1 ≤ b ∧ b ≤ 999999 := by have := tn.2.2 (by omega); omega
    have n1 : 1 ≤ n ∧ n ≤ 8 := by omega
    have bm := ix8 (n := n) (i := r) (j := c) ⟨by omega, by omega⟩ ⟨by omega, by omega⟩ ⟨by omega, by omega⟩
    obtain ⟨R, eR⟩ : ∃ R : Int → Int → Int, R = fun i j => cB σ s i j % b := ⟨_, rfl⟩
    have hR : ∀ i j, 0 ≤ i → i < n → 0 ≤ j → j < n → 0 ≤ R i j ∧ R i j < b := fun i j _ _ _ _ => by rw [eR]; exact ⟨Int.emod_nonneg _ (by omega), Int.emod_lt_of_pos _ (by omega)⟩
    rw [← en, ← eb]
    refine ok_aload_n 8 rfl rfl rfl (ok_getR 9 rfl rfl fl_X12_7 rfl rfl (ok_iload_n 10 rfl rfl rfl (ok_iald 11 rfl rfl rfl (by first | omega | (simp [up_if]; omega) | (simp [up_if] at *; omega)) ?_)))
    rw [← en]
    refine ok_ist4 12 rfl rfl rfl (ok_aload_n 13 rfl rfl rfl (ok_iload_n 14 rfl rfl rfl (ok_callVV (M' := M_Mo_laysBounds) (as := [_]) 15 rfl rfl ml_X12_337 (t_Mo_laysBounds hB ⟨u1, u2, u3⟩) rfl rfl (Nat.le_of_ble_eq_true rfl) ⟨Nat.le_of_ble_eq_true rfl, Nat.le_of_ble_eq_true rfl⟩ rfl (Nat.le_of_ble_eq_true rfl) (fun τ hz => ?_))))
    obtain ⟨f, hl⟩ := hz
    rw [← en, ← eb, ← eR] at hl
    replace f : fr rgN σ τ := f.mono (fun c k q => by simp only [rgH, rgN] at q ⊢; omega)
    refine ok_iconst 16 rfl rfl (by decide) (ok_ist5 17 rfl rfl rfl ?_)
    have E : ∀ υ : eS, fr rgN σ υ → iB1 υ ∧ υ 1 s = n ∧ υ 2 s = b ∧ (∀ k, υ 3 k = σ 3 k) ∧ cB υ s = cB σ s := fun υ g => by
      have e1 : ∀ k, υ 1 k = σ 1 k := fun k => g 1 k (by simp [rgN])
      have e3 : ∀ k, υ 3 k = σ 3 k := fun k => g 3 k (by simp [rgN])
      refine ⟨iB1_frS hB g (fun c k q => by simp only [rgN]; omega), by rw [e1, en], by rw [g 2 s (by simp [rgN]), eb], e3, ?_⟩
      funext a b; unfold cB; rw [e1, e3]
    refine lpO2 (fun (k : Int) (_ : eS) => [some (vr 0), some (vi s), some (vi r), some (vi c), some (vi n), some (vi k)]) (fun _ υ => υ) (fun k υ => 0 ≤ k ∧ k ≤ n * n ∧ fr rgN σ υ ∧ lhE n b R υ ∧ ∀ p, 0 ≤ p → p < k → υ 14 p = if σ 3 (64 * s + p) % b = 0 then 0 else 2) (fun k _ => (n * n - k).toNat) ?_ 0 τ ⟨by omega, by omega, f, hl, fun p p1 p2 => by omega⟩
    clear f hl τ
    rintro k υ ⟨k1, k2, f, hl, m⟩ ih
    obtain ⟨e1, e2, e3, e4, e5⟩ := E υ f
    refine ok_iload 18 rfl rfl rfl (ok_iload 19 rfl rfl rfl (ok_iload 20 rfl rfl rfl (ok_imul 21 rfl rfl (by first | omega | (simp [up_if]; omega) | (simp [up_if] at *; omega)) (ok_icmp_ge 22 78 rfl rfl rfl (fun h35 => ?_) (fun h35 => ?_)))))
    · refine ok_iconst 46 rfl rfl (by decide) (ok_ist5 47 rfl rfl rfl ?_)
      have F0 : fkI n b R υ 0 := fkI_0 n1 (fun i j a c d e => by
        have q := ix8 (n := n) (i := i) (j := j) ⟨by omega, by omega⟩ ⟨a, c⟩ ⟨d, e⟩
        have e9 : R i j = σ 3 (64 * s + (n * i + j)) % b := by
          rw [eR]
          show σ 3 (64 * s + σ 1 s * i + j) % b = _
          rw [← en, Int.add_assoc]
        rw [m _ (by omega) (by omega), e9])
      clear ih k1 k2 h35 e1 e2 e3 e4 e5 m
      refine lpO2 (fun (k : Int) (_ : eS) => [some (vr 0), some (vi s), some (vi r), some (vi c), some (vi n), some (vi k)]) (fun _ υ => υ) (fun k υ => 0 ≤ k ∧ k ≤ n * r + c + 1 ∧ fr rgN σ υ ∧ lhE n b R υ ∧ fkI n b R υ k) (fun k _ => (n * r + c + 1 - k).toNat) ?_ 0 υ ⟨by omega, by omega, f, hl, F0⟩
      clear f hl F0 k υ
      rintro k υ ⟨k1, k2, f, hl, F⟩ ih
      obtain ⟨e1, e2, e3, e4, e5⟩ := E υ f
      refine ok_iload 48 rfl rfl rfl (ok_iload 49 rfl rfl rfl (ok_iload_n 50 rfl rfl rfl (ok_imul 51 rfl rfl (by first | omega | (simp [up_if]; omega) | (simp [up_if] at *; omega)) (ok_iload_n 52 rfl rfl rfl (ok_iadd 53 rfl rfl (by first | omega | (simp [up_if]; omega) | (simp [up_if] at *; omega)) (ok_icmp_gt 54 136 rfl rfl rfl (fun h89 => ?_) (fun h89 => ?_)))))))
      · have cb := cB_bd e1 ⟨u1, u2⟩ (i := r) (j := c) ⟨by omega, by omega⟩ ⟨by omega, by omega⟩
        have ek : k = n * r + c + 1 := by omega
        have fb := (F.1 r c c1 (by omega) c3 (by omega)).1 (by omega)
        have db := div_bd (u := cB υ s r c) (g := b) (B := 99999999) cb hb.1
        refine ok_aload_n 77 rfl rfl rfl (ok_iload_n 78 rfl rfl rfl (ok_iload_n 79 rfl rfl rfl (ok_iload_n 80 rfl rfl rfl (ok_callVI (M' := M_Mo_at) (as := [_, _, _]) 81 rfl rfl ml_X12_107 (s_Mo_at e1 ⟨u1, u2⟩ ⟨by omega, by omega⟩ ⟨by omega, by omega⟩) rfl rfl (Nat.le_of_ble_eq_true rfl) ⟨Nat.le_of_ble_eq_true rfl, Nat.le_of_ble_eq_true rfl⟩ rfl (Nat.le_of_ble_eq_true rfl) (fun σ' z hz => ?_)))))
        rw [hz.1, hz.2]
        clear hz z σ'
        refine ok_aload_n 82 rfl rfl rfl (ok_getR 83 rfl rfl fl_X12_13 rfl rfl (ok_iload_n 84 rfl rfl rfl (ok_iald 85 rfl rfl rfl (by first | omega | (simp [up_if]; omega) | (simp [up_if] at *; omega)) ?_)))
        rw [e3]
        refine ok_idiv 86 rfl rfl (by first | omega | (simp [up_if]; omega) | (simp [up_if] at *; omega)) (by first | omega | (simp [up_if]; omega) | (simp [up_if] at *; omega)) (ok_aload_n 87 rfl rfl rfl (ok_getR 88 rfl rfl fl_X12_54 rfl rfl (ok_iload 89 rfl rfl rfl (ok_iload_n 90 rfl rfl rfl (ok_imul 91 rfl rfl (by first | omega | (simp [up_if]; omega) | (simp [up_if] at *; omega)) (ok_iload_n 92 rfl rfl rfl (ok_iadd 93 rfl rfl (by first | omega | (simp [up_if]; omega) | (simp [up_if] at *; omega)) (ok_iald 94 rfl rfl rfl (by first | omega | (simp [up_if]; omega) | (simp [up_if] at *; omega)) (ok_iadd 95 rfl rfl (by first | omega | (simp [up_if]; omega) | (simp [up_if] at *; omega)) (ok_iret 96 rfl rfl rfl ?_))))))))))
        rw [ek] at F
        exact ⟨_, rfl, f, roT_mk eR C0 F.2 (by rw [e5])⟩
      · obtain ⟨i, j, hi, hj, ek⟩ := ix_at n1.1 (show 0 ≤ k ∧ k < n * n by omega)
        refine ok_aload_n 55 rfl rfl rfl (ok_getR 56 rfl rfl fl_X12_54 rfl rfl (ok_iload 57 rfl rfl rfl (ok_iald 58 rfl rfl rfl (by first | omega | (simp [up_if]; omega) | (simp [up_if] at *; omega)) (ok_if_ne 59 105 rfl rfl rfl (fun h99 => ?_) (fun h99 => ?_)))))
        · obtain ⟨A, eA⟩ : ∃ A, A = up υ 14 k 0 := ⟨_, rfl⟩
          have vA : ∀ p, A 14 p = if p = n * i + j then 0 else υ 14 p := fun p => by
            rw [eA, ← ek]
            by_cases q : p = k
            · rw [if_pos q, q, up_same]
            · rw [if_neg q, up_nk _ _ _ _ (by omega)]
          have fA : fr rgN σ A := by rw [eA]; exact fr_up f (by simp [rgN])
          have lA : lhE n b R A := lhE_cg hl (fun q => by rw [eA]; exact ⟨up_ne _ _ _ _ (by decide), up_ne _ _ _ _ (by decide)⟩)
          obtain ⟨bA, tA0, oA⟩ := lhE_bd n1 hb.1 hR lA
          refine ok_aload_n 61 rfl rfl rfl (ok_getR 62 rfl rfl fl_X12_54 rfl rfl (ok_iload 63 rfl rfl rfl (ok_iconst 64 rfl rfl (by decide) (ok_iast 65 rfl rfl rfl (by first | omega | (simp [up_if]; omega) | (simp [up_if] at *; omega)) ?_))))
          rw [← eA]
          refine ok_aload_n 66 rfl rfl rfl (ok_iload 67 rfl rfl rfl (ok_callVI (M' := M_Mo_isKept) (as := [_]) 68 rfl rfl ml_X12_340 (t_Mo_isKept n1 bA tA0 oA) rfl rfl (Nat.le_of_ble_eq_true rfl) ⟨Nat.le_of_ble_eq_true rfl, Nat.le_of_ble_eq_true rfl⟩ rfl (Nat.le_of_ble_eq_true rfl) (fun ρ z hz => ?_)))
          obtain ⟨g, hz⟩ := hz
          have w1 : fr rgN σ ρ := fA.tr (g.mono (fun c k q => by simp only [rgQ, rgN] at q ⊢; omega))
          have w2 : lhE n b R ρ := lhE_cg lA (fun q => ⟨g 15 q (by simp [rgQ]), g 16 q (by simp [rgQ])⟩)
          have w3 : ∀ p, ρ 14 p = A 14 p := fun p => g 14 p (by simp [rgQ])
          refine ok_if_ne 69 130 rfl rfl rfl (fun h119 => ?_) (fun h119 => ?_)
          · have hk := yes1 hz (by omega)
            refine ok_inc5 75 rfl rfl rfl (by first | omega | (simp [up_if]; omega) | (simp [up_if] at *; omega)) (ok_goto 76 81 rfl rfl rfl ?_)
            refine ih (k + 1) ρ ⟨by omega, by omega, w1, w2, ?_⟩ (by omega)
            rw [ek] at F ⊢
            exact fkI_y n1 hi hj hR F vA lA hk w3
          · have hk : ¬ kpY A n := by
              rcases hz with q | q
              · omega
              · exact q.2
            refine ok_aload_n 70 rfl rfl rfl (ok_getR 71 rfl rfl fl_X12_54 rfl rfl (ok_iload 72 rfl rfl rfl (ok_iconst 73 rfl rfl (by decide) (ok_iast 74 rfl rfl rfl (by first | omega | (simp [up_if]; omega) | (simp [up_if] at *; omega)) (ok_inc5 75 rfl rfl rfl (by first | omega | (simp [up_if]; omega) | (simp [up_if] at *; omega)) (ok_goto 76 81 rfl rfl rfl ?_))))))
            refine ih (k + 1) _ ⟨by omega, by omega, fr_up w1 (by simp [rgN]), lhE_cg w2 (fun q => ⟨up_ne _ _ _ _ (by decide), up_ne _ _ _ _ (by decide)⟩), ?_⟩ (by omega)
            rw [ek] at F ⊢
            refine fkI_n n1 hi hj hR F (by rw [← ek]; omega) vA lA hk (fun p => ?_)
            by_cases q : p = n * i + j
            · rw [if_pos q, q, up_same]
            · rw [if_neg q, up_nk _ _ _ _ (by omega), w3]
        · refine ok_goto 60 130 rfl rfl rfl (ok_inc5 75 rfl rfl rfl (by first | omega | (simp [up_if]; omega) | (simp [up_if] at *; omega)) (ok_goto 76 81 rfl rfl rfl ?_))
          refine ih (k + 1) υ ⟨by omega, by omega, f, hl, ?_⟩ (by omega)
          rw [ek] at F ⊢
          exact fkI_z n1 hi hj hR F (by rw [← ek]; omega)
    · have cb := e1.2.1 (64 * s + k) (by omega) (by omega)
      refine ok_aload_n 23 rfl rfl rfl (ok_getR 24 rfl rfl fl_X12_54 rfl rfl (ok_iload 25 rfl rfl rfl (ok_aload_n 26 rfl rfl rfl (ok_getR 27 rfl rfl fl_X12_16 rfl rfl (ok_bipush 28 rfl rfl (by decide) (by decide) (ok_iload_n 29 rfl rfl rfl (ok_imul 30 rfl rfl (by first | omega | (simp [up_if]; omega) | (simp [up_if] at *; omega)) (ok_iload 31 rfl rfl rfl (ok_iadd 32 rfl rfl (by first | omega | (simp [up_if]; omega) | (simp [up_if] at *; omega)) (ok_iald 33 rfl rfl rfl (by first | omega | (simp [up_if]; omega) | (simp [up_if] at *; omega)) (ok_aload_n 34 rfl rfl rfl (ok_getR 35 rfl rfl fl_X12_13 rfl rfl (ok_iload_n 36 rfl rfl rfl (ok_iald 37 rfl rfl rfl (by first | omega | (simp [up_if]; omega) | (simp [up_if] at *; omega)) (ok_irem 38 rfl rfl (by first | omega | (simp [up_if]; omega) | (simp [up_if] at *; omega)) (by first | omega | (simp [up_if]; omega) | (simp [up_if] at *; omega)) (ok_if_ne 39 70 rfl rfl rfl (fun h63 => ?_) (fun h63 => ?_)))))))))))))))))
      · refine ok_iconst 42 rfl rfl (by decide) (ok_iast 43 rfl rfl rfl (by first | omega | (simp [up_if]; omega) | (simp [up_if] at *; omega)) (ok_inc5 44 rfl rfl rfl (by first | omega | (simp [up_if]; omega) | (simp [up_if] at *; omega)) (ok_goto 45 28 rfl rfl rfl ?_)))
        refine ih (k + 1) _ ⟨by omega, by omega, fr_up f (by simp [rgN]), lhE_cg hl (fun q => ⟨up_ne _ _ _ _ (by decide), up_ne _ _ _ _ (by decide)⟩), fun p p1 p2 => ?_⟩ (by omega)
        rw [e3, e4] at h63
        by_cases q : p = k
        · rw [q, up_same]
          first | rw [if_neg h63] | rw [if_pos h63] | rw [if_neg (by omega)] | rw [if_pos (by omega)]
        · rw [up_nk _ _ _ _ (by omega)]; exact m p p1 (by omega)
      · refine ok_iconst 40 rfl rfl (by decide) (ok_goto 41 71 rfl rfl rfl (ok_iast 43 rfl rfl rfl (by first | omega | (simp [up_if]; omega) | (simp [up_if] at *; omega)) (ok_inc5 44 rfl rfl rfl (by first | omega | (simp [up_if]; omega) | (simp [up_if] at *; omega)) (ok_goto 45 28 rfl rfl rfl ?_))))
        refine ih (k + 1) _ ⟨by omega, by omega, fr_up f (by simp [rgN]), lhE_cg hl (fun q => ⟨up_ne _ _ _ _ (by decide), up_ne _ _ _ _ (by decide)⟩), fun p p1 p2 => ?_⟩ (by omega)
        rw [e3, e4] at h63
        by_cases q : p = k
        · rw [q, up_same]
          first | rw [if_neg h63] | rw [if_pos h63] | rw [if_neg (by omega)] | rw [if_pos (by omega)]
        · rw [up_nk _ _ _ _ (by omega)]; exact m p p1 (by omega)
  · refine ok_iconst 6 rfl rfl (by decide) (ok_iret 7 rfl rfl rfl ?_)
    refine ⟨_, rfl, fr.rf, Or.inl ⟨?_, rfl⟩⟩
    rcases a1 with a1 | a1
    · omega
    · exact a1.2
end
section
/-! both sides between calls -/
def IB (τ : eS) : Prop := iB1 τ ∧ iK τ ∧ (0 ≤ τ 0 6 ∧ τ 0 6 ≤ 600) ∧ (0 ≤ τ 0 42 ∧ τ 0 42 ≤ 1400)
/-- the tape stays -/
def tpB (τ τ' : eS) : Prop := τ' 0 6 = τ 0 6 ∧ τ' 0 7 = τ 0 7 ∧ τ' 0 8 = τ 0 8 ∧ ∀ k, τ' 5 k = τ 5 k
/-- the parts stay -/
def miK (τ τ' : eS) : Prop := ∀ (c : Nat) (k : Int), (c = 0 ∧ 27 ≤ k ∧ k ≤ 31) ∨ c = 12 ∨ c = 13 → τ' c k = τ c k
theorem miK_rf (τ : eS) : miK τ τ := fun _ _ _ => rfl
/-- what was shown stays -/
def swK (τ τ' : eS) : Prop := τ' 0 42 = τ 0 42 ∧ ∀ k, τ' 23 k = τ 23 k
theorem swK_rf (τ : eS) : swK τ τ := ⟨rfl, fun _ => rfl⟩
def otK (τ τ' : eS) : Prop := miK τ τ' ∧ swK τ τ'
theorem otK_rf (τ : eS) : otK τ τ := ⟨miK_rf _, swK_rf _⟩
def QB0 (τ τ' : eS) : Prop := IB τ' ∧ tpB τ τ' ∧ otK τ τ'
def QB1 (τ τ' : eS) : Prop := IB τ' ∧ tpB τ τ' ∧ tbK τ τ' ∧ swK τ τ'
def QBw (τ τ' : eS) : Prop := IB τ' ∧ tpB τ τ' ∧ tbK τ τ' ∧ miK τ τ'
def QB (τ τ' : eS) : Prop := IB τ' ∧ tpB τ τ' ∧ tbK τ τ' ∧ otK τ τ'
theorem QB.q0 {τ τ' : eS} (h : QB τ τ') : QB0 τ τ' := ⟨h.1, h.2.1, h.2.2.2⟩
theorem iK_cg {σ τ : eS} (h : iK σ) (e : ∀ c k, (c = 0 ∧ 27 ≤ k ∧ k ≤ 31) ∨ c = 12 ∨ c = 13 → τ c k = σ c k) : iK τ := by
  have e27 := e 0 27 (by omega)
  have e28 := e 0 28 (by omega)
  have e29 := e 0 29 (by omega)
  have e30 := e 0 30 (by omega)
  have e31 := e 0 31 (by omega)
  have e12 : ∀ k, τ 12 k = σ 12 k := fun k => e 12 k (by omega)
  have e13 : ∀ k, τ 13 k = σ 13 k := fun k => e 13 k (by omega)
  unfold iK wtK colK
  simp only [e27, e28, e29, e30, e31, e12, e13]
  exact h
theorem QB_rf {σ : eS} (h : IB σ) : QB σ σ := ⟨h, ⟨rfl, rfl, rfl, fun _ => rfl⟩, fun _ => ⟨rfl, rfl, rfl⟩, otK_rf _⟩
theorem QB_cg {σ τ : eS} {P : Nat → Int → Prop} (h : IB σ) (f : fr P σ τ) (e : ∀ c k, (c = 0 ∧ (k = 6 ∨ k = 7 ∨ k = 8 ∨ k = 42 ∨ (27 ≤ k ∧ k ≤ 31))) ∨ (1 ≤ c ∧ c ≤ 5) ∨ c = 12 ∨ c = 13 ∨ c = 23 → ¬ P c k) : QB σ τ := by
  have e6 := f 0 6 (e 0 6 (by omega))
  have e42 := f 0 42 (e 0 42 (by omega))
  refine ⟨⟨h.1.fr (fun c k q => f c k (e c k (by omega))), iK_cg h.2.1 (fun c k q => f c k (e c k (by omega))), ?_, ?_⟩, ⟨e6, f _ _ (e _ _ (by omega)), f _ _ (e _ _ (by omega)), fun k => f _ _ (e _ _ (by omega))⟩, fun k => ⟨f _ _ (e _ _ (by omega)), f _ _ (e _ _ (by omega)), f _ _ (e _ _ (by omega))⟩, ⟨fun c k w => f c k (e c k (by omega)), e42, fun k => f _ _ (e _ _ (by omega))⟩⟩
  · rw [e6]; exact h.2.2.1
  · rw [e42]; exact h.2.2.2
theorem QB_M {σ τ : eS} {z : Int} (h : IB σ) (q : QM σ τ z) : QB0 σ τ := by
  have e6 := q.1 0 6 (by simp [rgM])
  have e42 := q.1 0 42 (by simp [rgM])
  refine ⟨⟨q.2.1, iK_cg h.2.1 (fun c k w => q.1 c k (by simp only [rgM]; omega)), ?_, ?_⟩, ⟨e6, q.1 _ _ (by simp [rgM]), q.1 _ _ (by simp [rgM]), fun k => q.1 _ _ (by simp [rgM])⟩, ⟨fun c k w => q.1 c k (by simp only [rgM]; omega), e42, fun k => q.1 _ _ (by simp [rgM])⟩⟩
  · rw [e6]; exact h.2.2.1
  · rw [e42]; exact h.2.2.2
theorem QB_P {σ τ : eS} (h : IB σ) (q : QP σ τ) : QB1 σ τ := by
  have e6 := q.1 0 6 (by simp [rgP])
  have e42 := q.1 0 42 (by simp [rgP])
  refine ⟨⟨h.1.fr (fun c k w => q.1 c k (by simp only [rgP]; omega)), q.2 h.2.1, ?_, ?_⟩, ⟨e6, q.1 _ _ (by simp [rgP]), q.1 _ _ (by simp [rgP]), fun k => q.1 _ _ (by simp [rgP])⟩, fun k => ⟨q.1 _ _ (by simp [rgP]), q.1 _ _ (by simp [rgP]), q.1 _ _ (by simp [rgP])⟩, e42, fun k => q.1 _ _ (by simp [rgP])⟩
  · rw [e6]; exact h.2.2.1
  · rw [e42]; exact h.2.2.2
theorem QB_W {σ τ : eS} (h : IB σ) (f : fr rgW σ τ) (g : 0 ≤ τ 0 42 ∧ τ 0 42 ≤ 1216) : QBw σ τ := by
  have e6 := f 0 6 (by simp [rgW])
  refine ⟨⟨h.1.fr (fun c k w => f c k (by simp only [rgW]; omega)), iK_cg h.2.1 (fun c k w => f c k (by simp only [rgW]; omega)), ?_, by omega⟩, ⟨e6, f _ _ (by simp [rgW]), f _ _ (by simp [rgW]), fun k => f _ _ (by simp [rgW])⟩, fun k => ⟨f _ _ (by simp [rgW]), f _ _ (by simp [rgW]), f _ _ (by simp [rgW])⟩, fun c k w => f c k (by simp only [rgW]; omega)⟩
  rw [e6]; exact h.2.2.1
theorem fd_o (σ : eS) (t a b c d e : Int) (x : Nat) (k : Int) (h : ¬ (x = 0 ∧ k = 6)) (h5 : x ≠ 5) : fd σ t a b c d e x k = σ x k := by simp [fd, fo, h, h5]
theorem fd_6 (σ : eS) (t a b c d e : Int) : fd σ t a b c d e 0 6 = t + 20 := by unfold fd; rw [fo_6]; omega
theorem g_Ev_feed {σ : eS} {a b c d e : Int} (h : IA σ) : MtI shA M_Ev_feed [vr 0, vi a, vi b, vi c, vi d, vi e] σ (fun σ' z => IA σ' ∧ ((σ 10 3 + 20 ≤ 600 ∧ fdA σ (σ 10 3) a b c d e σ' ∧ z = σ 10 3 + 20) ∨ (600 < σ 10 3 + 20 ∧ σ' = σ ∧ z = -1))) :=
  (s_Ev_feed h.1).weaken (fun σ' v q => by
    obtain ⟨z, e1, q⟩ := q
    refine ⟨z, e1, ?_, q⟩
    rcases q with ⟨g1, g2, g3⟩ | ⟨g1, g2, g3⟩
    · have f := g2.1
      refine ⟨?_, iTs_cg h.2.1 (fun c k a b d => f c k (by simp only [rgG]; omega)), iCh_cg h.2.2.1 (fun k => f _ k (by simp [rgG])), iMi_cg h.2.2.2.1 (fun c k a b => f c k (by simp only [rgG]; omega)), iSh_cg h.2.2.2.2.1 (fun k => f _ k (by simp [rgG])), iSu_cg h.2.2.2.2.2 (fun k => f _ k (by simp [rgG]))⟩
      have := h.1
      unfold tL at *
      have := g2.2.1
      omega
    · subst g2
      exact h)
theorem g_Mo_feed {σ : eS} {a b c d e : Int} (h : IB σ) : MtI shB M_Mo_feed [vr 0, vi a, vi b, vi c, vi d, vi e] σ (fun σ' z => IB σ' ∧ ((σ 0 6 + 20 ≤ 600 ∧ σ' = fd σ (σ 0 6) a b c d e ∧ z = σ 0 6 + 20) ∨ (600 < σ 0 6 + 20 ∧ σ' = σ ∧ z = -1))) :=
  (s_Mo_feed h.2.2.1).weaken (fun σ' v q => by
    obtain ⟨z, e1, q⟩ := q
    refine ⟨z, e1, ?_, q⟩
    rcases q with ⟨g1, g2, g3⟩ | ⟨g1, g2, g3⟩
    · subst g2
      have h6 := h.2.2.1
      exact ⟨h.1.fr (fun c k w => fd_o _ _ _ _ _ _ _ _ _ (by omega) (by omega)), iK_cg h.2.1 (fun c k w => fd_o _ _ _ _ _ _ _ _ _ (by omega) (by omega)), by rw [fd_6]; omega, by rw [fd_o _ _ _ _ _ _ _ _ _ (by omega) (by omega)]; exact h.2.2.2⟩
    · subst g2
      exact h)
theorem g_Ev_end {σ : eS} {n : Int} (h : IA σ) : MtI shA M_Ev_end [vr 0, vi n] σ (fun σ' z => IA σ' ∧ ((0 ≤ n ∧ n ≤ σ 10 3 ∧ σ' = up σ 10 3 n ∧ z = 1) ∨ (¬ (0 ≤ n ∧ n ≤ σ 10 3) ∧ σ' = σ ∧ z = 0))) :=
  s_Ev_end.weaken (fun σ' v q => by
    obtain ⟨z, e1, q⟩ := q
    refine ⟨z, e1, ?_, q⟩
    rcases q with ⟨g1, g2, g3, g4⟩ | ⟨g1, g2, g3⟩
    · subst g3
      have f : fr (fun c k => c = 10 ∧ k = 3) σ (up σ 10 3 n) := fr_up fr.rf ⟨rfl, rfl⟩
      refine ⟨?_, iTs_cg h.2.1 (fun c k a b d => f c k (by omega)), iCh_cg h.2.2.1 (fun k => f _ k (by omega)), iMi_cg h.2.2.2.1 (fun c k a b => f c k (by omega)), iSh_cg h.2.2.2.2.1 (fun k => f _ k (by omega)), iSu_cg h.2.2.2.2.2 (fun k => f _ k (by omega))⟩
      have := h.1
      unfold tL at *
      rw [up_same]
      omega
    · subst g2
      exact h)
theorem g_Mo_end {σ : eS} {n : Int} (h : IB σ) : MtI shB M_Mo_end [vr 0, vi n] σ (fun σ' z => IB σ' ∧ ((0 ≤ n ∧ n ≤ σ 0 6 ∧ σ' = up σ 0 6 n ∧ z = 1) ∨ (¬ (0 ≤ n ∧ n ≤ σ 0 6) ∧ σ' = σ ∧ z = 0))) :=
  s_Mo_end.weaken (fun σ' v q => by
    obtain ⟨z, e1, q⟩ := q
    refine ⟨z, e1, ?_, q⟩
    rcases q with ⟨g1, g2, g3, g4⟩ | ⟨g1, g2, g3⟩
    · subst g3
      have h6 := h.2.2.1
      refine ⟨h.1.fr (fun c k w => up_ne _ _ _ _ (by omega)), iK_cg h.2.1 (fun c k w => ?_), by rw [up_same]; omega, by rw [up_nk _ _ _ _ (by decide)]; exact h.2.2.2⟩
      rw [up_if, if_neg (by omega)]
    · subst g2
      exact h)
theorem g_Ev_table {σ : eS} {s : Int} (h : IA σ) : MtI shA M_Ev_table [vr 0, vi s] σ (fun σ' z => IA σ' ∧ (σ' 10 3 = 0 ∧ TA σ s σ' z) ∧ otS σ σ') := t_Ev_table h
theorem g_Mo_table {σ : eS} {s : Int} (h : IB σ ∧ byt σ) : MtI shB M_Mo_table [vr 0, vi s] σ (fun σ' z => IB σ' ∧ (σ' 0 6 = 0 ∧ TB σ s σ' z) ∧ otK σ σ') :=
  (t_Mo_table h.1.1 h.1.2.2.1 h.2).weaken (fun σ' v q => by
    obtain ⟨z, e1, ⟨f, g1, g2⟩, g3⟩ := q
    exact ⟨z, e1, ⟨g1, iK_cg h.1.2.1 (fun c k w => f c k (by simp only [rgT]; omega)), by omega, by rw [f 0 42 (by simp [rgT])]; exact h.1.2.2.2⟩, ⟨g2, g3⟩, fun c k w => f c k (by simp only [rgT]; omega), f _ _ (by simp [rgT]), fun k => f _ _ (by simp [rgT])⟩)
theorem g_Ev_look {σ : eS} {x0 x1 : Int} (h : IA σ) : MtI shA M_Ev_look [vr 0, vi x0, vi x1] σ (fun σ' _ => QA σ σ') := (s_Ev_look h).weaken (fun σ' v q => by obtain ⟨z, e1, g1, _⟩ := q; subst g1; exact ⟨z, e1, QA_rf h⟩)
theorem g_Mo_look {σ : eS} {x0 x1 : Int} (h : IB σ) : MtI shB M_Mo_look [vr 0, vi x0, vi x1] σ (fun σ' _ => QB σ σ') := (s_Mo_look h.1).weaken (fun σ' v q => by obtain ⟨z, e1, g1⟩ := q; exact ⟨z, e1, QB_cg h g1 (fun c k w => by omega)⟩)
theorem g_Ev_cell {σ : eS} {x0 x1 x2 : Int} (h : IA σ) : MtI shA M_Ev_cell [vr 0, vi x0, vi x1, vi x2] σ (fun σ' z => QA σ σ' ∧ ((celA σ x0 x1 x2 ∧ z = cT σ (x0.toNat + 2) x1 x2) ∨ (¬ celA σ x0 x1 x2 ∧ z = -1))) := (s_Ev_cell h).weaken (fun σ' v q => by obtain ⟨z, e1, g1, g2⟩ := q; subst g1; exact ⟨z, e1, QA_rf h, g2⟩)
theorem g_Mo_cell {σ : eS} {x0 x1 x2 : Int} (h : IB σ) : MtI shB M_Mo_cell [vr 0, vi x0, vi x1, vi x2] σ (fun σ' z => QB σ σ' ∧ ((celB σ x0 x1 x2 ∧ z = cB σ x0 x1 x2) ∨ (¬ celB σ x0 x1 x2 ∧ z = -1))) := (s_Mo_cell h.1).weaken (fun σ' v q => by obtain ⟨z, e1, g1, g2⟩ := q; subst g1; exact ⟨z, e1, QB_rf h, g2⟩)
theorem g_Ev_uneven {σ : eS} {x0 : Int} (h : IA σ) : MtI shA M_Ev_uneven [vr 0, vi x0] σ (fun σ' z => QA σ σ' ∧ ((¬ tabA σ x0 ∧ z = -1) ∨ (tabA σ x0 ∧ unev (rowT σ (x0.toNat + 2)) (colT σ (x0.toNat + 2)) (σ (x0.toNat + 2) 1) z))) := (s_Ev_uneven h).weaken (fun σ' v q => by obtain ⟨z, e1, g1, g2⟩ := q; subst g1; exact ⟨z, e1, QA_rf h, g2⟩)
theorem g_Mo_uneven {σ : eS} {x0 : Int} (h : IB σ) : MtI shB M_Mo_uneven [vr 0, vi x0] σ (fun σ' z => QB σ σ' ∧ ((¬ tabB σ x0 ∧ z = -1) ∨ (tabB σ x0 ∧ unev (rowB σ x0) (colB σ x0) (σ 1 x0) z))) := (s_Mo_uneven h.1).weaken (fun σ' v q => by obtain ⟨z, e1, g1, g2⟩ := q; subst g1; exact ⟨z, e1, QB_rf h, g2⟩)
theorem g_Ev_lack {σ : eS} {x0 x1 x2 : Int} (h : IA σ) : MtI shA M_Ev_lack [vr 0, vi x0, vi x1, vi x2] σ (fun σ' z => QA σ σ' ∧ ((¬ okL (tabA σ x0) x1 x2 ∧ z = -1) ∨ (okL (tabA σ x0) x1 x2 ∧ z = lackV (σ (x0.toNat + 2) 1) (fun i j => x1 ≤ cT σ (x0.toNat + 2) i j) x2))) := (t_Ev_lack h).weaken (fun σ' v q => by obtain ⟨z, e1, g1, g2⟩ := q; subst g1; exact ⟨z, e1, QA_rf h, g2⟩)
theorem g_Mo_lack {σ : eS} {x0 x1 x2 : Int} (h : IB σ) : MtI shB M_Mo_lack [vr 0, vi x0, vi x1, vi x2] σ (fun σ' z => QB σ σ' ∧ ((¬ okL (tabB σ x0) x1 x2 ∧ z = -1) ∨ (okL (tabB σ x0) x1 x2 ∧ z = lackV (σ 1 x0) (fun i j => x1 ≤ cB σ x0 i j) x2))) := (t_Mo_lack h.1).weaken (fun σ' v q => by obtain ⟨z, e1, g1, g2⟩ := q; subst g1; exact ⟨z, e1, QB_rf h, g2⟩)
theorem g_Ev_mixing {σ : eS} {x0 : Int} (h : IA σ) : MtI shA M_Ev_mixing [vr 0, vi x0] σ (fun σ' z => QA σ σ' ∧ ((¬ tabA σ x0 ∧ z = -1) ∨ (tabA σ x0 ∧ mxG (σ (x0.toNat + 2) 1) (cT σ (x0.toNat + 2)) z))) := (t_Ev_mixing h).weaken (fun σ' v q => by obtain ⟨z, e1, g1, g2⟩ := q; subst g1; exact ⟨z, e1, QA_rf h, g2⟩)
theorem g_Mo_mixing {σ : eS} {x0 : Int} (h : IB σ) : MtI shB M_Mo_mixing [vr 0, vi x0] σ (fun σ' z => QB σ σ' ∧ ((¬ tabB σ x0 ∧ z = -1) ∨ (tabB σ x0 ∧ mxG (σ 1 x0) (cB σ x0) z))) := (t_Mo_mixing h.1).weaken (fun σ' v q => by obtain ⟨z, e1, g1, g2⟩ := q; exact ⟨z, e1, QB_cg h g1 (fun c k w => by simp only [rgX]; omega), g2⟩)
theorem g_Ev_kin {σ : eS} {x0 x1 : Int} (h : IA σ) : MtI shA M_Ev_kin [vr 0, vi x0, vi x1] σ (fun σ' z => QA σ σ' ∧ ((¬ okKn (tabA σ x0) (σ (x0.toNat + 2) 1) x1 ∧ z = -1) ∨ (okKn (tabA σ x0) (σ (x0.toNat + 2) 1) x1 ∧ kiS (σ (x0.toNat + 2) 1) (cT σ (x0.toNat + 2)) x1 z))) := (t_Ev_kin h).weaken (fun σ' v q => by obtain ⟨z, e1, g1, g2⟩ := q; subst g1; exact ⟨z, e1, QA_rf h, g2⟩)
theorem g_Mo_kin {σ : eS} {x0 x1 : Int} (h : IB σ) : MtI shB M_Mo_kin [vr 0, vi x0, vi x1] σ (fun σ' z => QB σ σ' ∧ ((¬ okKn (tabB σ x0) (σ 1 x0) x1 ∧ z = -1) ∨ (okKn (tabB σ x0) (σ 1 x0) x1 ∧ kiS (σ 1 x0) (cB σ x0) x1 z))) := (t_Mo_kin h.1).weaken (fun σ' v q => by obtain ⟨z, e1, g1, g2⟩ := q; exact ⟨z, e1, QB_cg h g1 (fun c k w => by simp only [rgX]; omega), g2⟩)
theorem g_Ev_part {σ : eS} {x0 x1 : Int} (h : IA σ) : MtI shA M_Ev_part [vr 0, vi x0, vi x1] σ (fun σ' z => QA σ σ' ∧ prS (σ 22 5) (σ 22 4) (kA σ) x0 x1 z) := (t_Ev_part h).weaken (fun σ' v q => by obtain ⟨z, e1, g1, g2⟩ := q; subst g1; exact ⟨z, e1, QA_rf h, g2⟩)
theorem g_Mo_part {σ : eS} {x0 x1 : Int} (h : IB σ) : MtI shB M_Mo_part [vr 0, vi x0, vi x1] σ (fun σ' z => QB σ σ' ∧ ((z = σ 13 (8 * x0 + x1) ∧ 0 ≤ x0 ∧ x0 < σ 0 27 ∧ 0 ≤ x1 ∧ x1 < σ 0 28) ∨ (z = -1 ∧ ¬ (0 ≤ x0 ∧ x0 < σ 0 27 ∧ 0 ≤ x1 ∧ x1 < σ 0 28)))) := (s_Mo_part h.2.1).weaken (fun σ' v q => by obtain ⟨z, e1, g1, g2⟩ := q; subst g1; exact ⟨z, e1, QB_rf h, g2⟩)
theorem g_Ev_weight {σ : eS} {x0 x1 : Int} (h : IA σ) : MtI shA M_Ev_weight [vr 0, vi x0, vi x1] σ (fun σ' z => QA σ σ' ∧ ((1 ≤ σ 22 6 → wtS (σ 22 5) (σ 22 6) (wA σ) x0 x1 z) ∧ (σ 22 5 = 0 → z = -1))) := (t_Ev_weight h).weaken (fun σ' v q => by obtain ⟨z, e1, g1, g2⟩ := q; subst g1; exact ⟨z, e1, QA_rf h, g2⟩)
theorem g_Mo_weight {σ : eS} {x0 x1 : Int} (h : IB σ) : MtI shB M_Mo_weight [vr 0, vi x0, vi x1] σ (fun σ' z => QB σ σ' ∧ wtS (σ 0 27) (σ 0 29) (wB σ) x0 x1 z) := (t_Mo_weight h.2.1).weaken (fun σ' v q => by obtain ⟨z, e1, g1, g2⟩ := q; subst g1; exact ⟨z, e1, QB_rf h, g2⟩)
theorem g_Ev_draw {σ : eS} {x0 : Int} (h : IA σ) : MtI shA M_Ev_draw [vr 0, vi x0] σ (fun σ' z => QA σ σ' ∧ drS (σ 22 5) (wA σ) x0 z) := (t_Ev_draw h).weaken (fun σ' v q => by obtain ⟨z, e1, g1, g2⟩ := q; subst g1; exact ⟨z, e1, QA_rf h, g2⟩)
theorem g_Mo_draw {σ : eS} {x0 : Int} (h : IB σ) : MtI shB M_Mo_draw [vr 0, vi x0] σ (fun σ' z => QB σ σ' ∧ drS (σ 0 27) (wB σ) x0 z) := (t_Mo_draw h.2.1).weaken (fun σ' v q => by obtain ⟨z, e1, g1, g2⟩ := q; subst g1; exact ⟨z, e1, QB_rf h, g2⟩)
theorem g_Ev_joint {σ : eS} {x0 x1 x2 x3 x4 : Int} (h : IA σ) : MtI shA M_Ev_joint [vr 0, vi x0, vi x1, vi x2, vi x3, vi x4] σ (fun σ' z => QA σ σ' ∧ ((1 ≤ σ 22 6 → jtS (σ 22 5) (σ 22 4) (σ 22 6) (wA σ) (kA σ) x0 x1 x2 x3 x4 z) ∧ (σ 22 4 = 0 → z = -1))) := (t_Ev_joint h).weaken (fun σ' v q => by obtain ⟨z, e1, g1, g2⟩ := q; subst g1; exact ⟨z, e1, QA_rf h, g2⟩)
theorem g_Mo_joint {σ : eS} {x0 x1 x2 x3 x4 : Int} (h : IB σ) : MtI shB M_Mo_joint [vr 0, vi x0, vi x1, vi x2, vi x3, vi x4] σ (fun σ' z => QB σ σ' ∧ ((σ 0 27 ≠ 0 → jtS (σ 0 27) (σ 0 28) (σ 0 29) (wB σ) (kB σ) x0 x1 x2 x3 x4 z) ∧ (σ 0 27 = 0 → z = -1))) := (t_Mo_joint h.2.1).weaken (fun σ' v q => by obtain ⟨z, e1, g1, g2⟩ := q; subst g1; exact ⟨z, e1, QB_rf h, g2⟩)
theorem g_Ev_most {σ : eS} {x0 x1 : Int} (h : IA σ) : MtI shA M_Ev_most [vr 0, vi x0, vi x1] σ (fun σ' z => QA σ σ' ∧ mtS (σ 22 5) (σ 22 4) (wA σ) (kA σ) x0 x1 z) := (t_Ev_most h).weaken (fun σ' v q => by obtain ⟨z, e1, g1, g2⟩ := q; subst g1; exact ⟨z, e1, QA_rf h, g2⟩)
theorem g_Mo_most {σ : eS} {x0 x1 : Int} (h : IB σ) : MtI shB M_Mo_most [vr 0, vi x0, vi x1] σ (fun σ' z => QB σ σ' ∧ moS (σ 0 27) (σ 0 28) (wB σ) (kB σ) x0 x1 z) := (t_Mo_most h.2.1).weaken (fun σ' v q => by obtain ⟨z, e1, g1, g2⟩ := q; subst g1; exact ⟨z, e1, QB_rf h, g2⟩)
theorem g_Ev_works {σ : eS} {x0 x1 : Int} (h : IA σ) : MtI shA M_Ev_works [vr 0, vi x0, vi x1] σ (fun σ' z => QA σ σ' ∧ wkS (σ 22 5) (σ 22 3) (wA σ) (kA σ) (σ 22 2 = 2 ∧ 0 ≤ x0 ∧ x0 < σ 22 3) x0 x1 z) := (t_Ev_works h).weaken (fun σ' v q => by obtain ⟨z, e1, g1, g2⟩ := q; subst g1; exact ⟨z, e1, QA_rf h, g2⟩)
theorem g_Mo_works {σ : eS} {x0 x1 : Int} (h : IB σ) : MtI shB M_Mo_works [vr 0, vi x0, vi x1] σ (fun σ' z => QB σ σ' ∧ wkS (σ 0 27) (σ 0 31) (wB σ) (kB σ) (σ 0 30 = 2 ∧ 0 ≤ x0 ∧ x0 < σ 0 31) x0 x1 z) := (t_Mo_works h.2.1).weaken (fun σ' v q => by obtain ⟨z, e1, g1, g2⟩ := q; subst g1; exact ⟨z, e1, QB_rf h, g2⟩)
theorem g_Ev_job {σ : eS} {x0 x1 : Int} (h : IA σ) : MtI shA M_Ev_job [vr 0, vi x0, vi x1] σ (fun σ' _ => QA σ σ') := (s_Ev_job h).weaken (fun σ' v q => by obtain ⟨z, e1, g1, _⟩ := q; subst g1; exact ⟨z, e1, QA_rf h⟩)
theorem g_Mo_job {σ : eS} {x0 x1 : Int} (h : IB σ) : MtI shB M_Mo_job [vr 0, vi x0, vi x1] σ (fun σ' _ => QB σ σ') := (s_Mo_job h.2.1).weaken (fun σ' v q => by obtain ⟨z, e1, g1⟩ := q; subst g1; exact ⟨z, e1, QB_rf h⟩)
theorem g_Ev_out {σ : eS} {x0 : Int} (h : IA σ) : MtI shA M_Ev_out [vr 0, vi x0] σ (fun σ' z => QA σ σ' ∧ ouS (σ 46 1) (fun k => σ 47 k) x0 z) := (t_Ev_out h).weaken (fun σ' v q => by obtain ⟨z, e1, g1, g2⟩ := q; subst g1; exact ⟨z, e1, QA_rf h, g2⟩)
theorem g_Mo_out {σ : eS} {x0 : Int} (h : IB σ) : MtI shB M_Mo_out [vr 0, vi x0] σ (fun σ' z => QB σ σ' ∧ ouS (σ 0 42) (fun k => σ 23 k) x0 z) := (t_Mo_out h.2.2.2).weaken (fun σ' v q => by obtain ⟨z, e1, g1, g2⟩ := q; subst g1; exact ⟨z, e1, QB_rf h, g2⟩)
theorem g_Ev_fault {σ : eS} {x0 : Int} (h : IA σ) : MtI shA M_Ev_fault [vr 0, vi x0] σ (fun σ' z => QA σ σ' ∧ z = if x0 = 0 then σ 10 4 else if x0 = 1 then σ 10 5 else -1) := (s_Ev_fault).weaken (fun σ' v q => by obtain ⟨z, e1, g1, g2⟩ := q; subst g1; exact ⟨z, e1, QA_rf h, g2⟩)
theorem g_Mo_fault {σ : eS} {x0 : Int} (h : IB σ) : MtI shB M_Mo_fault [vr 0, vi x0] σ (fun σ' z => QB σ σ' ∧ z = if x0 = 0 then σ 0 7 else if x0 = 1 then σ 0 8 else -1) := (s_Mo_fault).weaken (fun σ' v q => by obtain ⟨z, e1, g1, g2⟩ := q; subst g1; exact ⟨z, e1, QB_rf h, g2⟩)
theorem g_Ev_kept {σ : eS} {x0 : Int} (h : IA σ) : MtI shA M_Ev_kept [vr 0, vi x0] σ (fun σ' z => QA σ σ' ∧ z = if x0 = 0 then σ 22 2 else if x0 = 1 then σ 22 5 else if x0 = 2 then σ 22 6 else if x0 = 3 then σ 22 3 else if x0 = 4 then σ 10 3 else -1) := (t_Ev_kept).weaken (fun σ' v q => by obtain ⟨z, e1, g1, g2⟩ := q; subst g1; exact ⟨z, e1, QA_rf h, g2⟩)
theorem g_Mo_kept {σ : eS} {x0 : Int} (h : IB σ) : MtI shB M_Mo_kept [vr 0, vi x0] σ (fun σ' z => QB σ σ' ∧ z = if x0 = 0 then σ 0 30 else if x0 = 1 then σ 0 27 else if x0 = 2 then σ 0 29 else if x0 = 3 then (if σ 0 30 = 2 then σ 0 31 else σ 0 28) else if x0 = 4 then σ 0 6 else -1) := (t_Mo_kept).weaken (fun σ' v q => by obtain ⟨z, e1, g1, g2⟩ := q; subst g1; exact ⟨z, e1, QB_rf h, g2⟩)
theorem g_Ev_peel {σ : eS} {x0 x1 : Int} (h : IA σ ∧ iSe σ ∧ σ 16 3 + 64 < 2147483647) : MtI shA M_Ev_peel [vr 0, vi x0, vi x1] σ (fun σ' z => XpA σ x0 x1 σ' z) := t_Ev_peel h.1 h.2.1 h.2.2
theorem g_Mo_peel {σ : eS} {x0 x1 : Int} (h : IB σ) : MtI shB M_Mo_peel [vr 0, vi x0, vi x1] σ (fun σ' z => XpB σ x0 x1 σ' z) := t_Mo_peel h.1
theorem g_Ev_shop {σ : eS} {x0 x1 : Int} (h : IA σ ∧ iSe σ ∧ σ 16 3 + 64 < 2147483647) : MtI shA M_Ev_shop [vr 0, vi x0, vi x1] σ (fun σ' z => XsA σ x0 x1 σ' z) := t_Ev_shop h.1 h.2.1 h.2.2
theorem g_Mo_shop {σ : eS} {x0 x1 : Int} (h : IB σ) : MtI shB M_Mo_shop [vr 0, vi x0, vi x1] σ (fun σ' z => XsB σ x0 x1 σ' z) := t_Mo_shop h.1
theorem g_Ev_paired {σ : eS} {x0 x1 x2 : Int} (h : IA σ ∧ iSe σ ∧ σ 16 3 + 64 < 2147483647) : MtI shA M_Ev_paired [vr 0, vi x0, vi x1, vi x2] σ (fun σ' z => QA σ σ' ∧ ((¬ okPr (tabA σ x0) (σ (x0.toNat + 2) 1) x1 x2 ∧ z = -1) ∨ (okPr (tabA σ x0) (σ (x0.toNat + 2) 1) x1 x2 ∧ paS (σ (x0.toNat + 2) 1) (fun i j => x1 ≤ cT σ (x0.toNat + 2) i j) x2 z))) := t_Ev_paired h
theorem g_Mo_paired {σ : eS} {x0 x1 x2 : Int} (h : IB σ) : MtI shB M_Mo_paired [vr 0, vi x0, vi x1, vi x2] σ (fun σ' z => QB σ σ' ∧ ((¬ okPr (tabB σ x0) (σ 1 x0) x1 x2 ∧ z = -1) ∨ (okPr (tabB σ x0) (σ 1 x0) x1 x2 ∧ paS (σ 1 x0) (fun i j => x1 ≤ cB σ x0 i j) x2 z))) := (t_Mo_paired h.1).weaken (fun σ' v q => by obtain ⟨z, e1, g1, g2⟩ := q; exact ⟨z, e1, QB_cg h g1 (fun c k w => by simp only [rgS]; omega), g2⟩)
theorem g_Ev_ways {σ : eS} {x0 x1 : Int} (h : IA σ) : MtI shA M_Ev_ways [vr 0, vi x0, vi x1] σ (fun σ' z => QA σ σ' ∧ ((¬ okW (tabA σ x0) x1 ∧ z = -1) ∨ (okW (tabA σ x0) x1 ∧ z = wyV (σ (x0.toNat + 2) 1) (fun i j => x1 ≤ cT σ (x0.toNat + 2) i j)))) := t_Ev_ways h
theorem g_Mo_ways {σ : eS} {x0 x1 : Int} (h : IB σ) : MtI shB M_Mo_ways [vr 0, vi x0, vi x1] σ (fun σ' z => QB σ σ' ∧ ((¬ okW (tabB σ x0) x1 ∧ z = -1) ∨ (okW (tabB σ x0) x1 ∧ z = wyV (σ 1 x0) (fun i j => x1 ≤ cB σ x0 i j)))) := (t_Mo_ways h.1).weaken (fun σ' v q => by obtain ⟨z, e1, g1, g2⟩ := q; exact ⟨z, e1, QB_cg h g1 (fun c k w => by simp only [rgU]; omega), g2⟩)
theorem g_Ev_widest {σ : eS} {x0 : Int} (h : IA σ) : MtI shA M_Ev_widest [vr 0, vi x0] σ (fun σ' z => QA σ σ' ∧ ((¬ tabA σ x0 ∧ z = -1) ∨ (tabA σ x0 ∧ wdA (σ (x0.toNat + 2) 1) (fun i j => 0 ≤ cT σ (x0.toNat + 2) i j) (cT σ (x0.toNat + 2)) z))) := t_Ev_widest h
theorem g_Mo_widest {σ : eS} {x0 : Int} (h : IB σ) : MtI shB M_Mo_widest [vr 0, vi x0] σ (fun σ' z => QB σ σ' ∧ ((¬ tabB σ x0 ∧ z = -1) ∨ (tabB σ x0 ∧ wdA (σ 1 x0) (fun i j => 0 ≤ wk (wo σ x0 (σ 1 x0) (σ 1 x0 * σ 1 x0)) i j) (wk (wo σ x0 (σ 1 x0) (σ 1 x0 * σ 1 x0))) z))) := (t_Mo_widest h.1).weaken (fun σ' v q => by obtain ⟨z, e1, g1, g2⟩ := q; exact ⟨z, e1, QB_cg h g1 (fun c k w => by simp only [rgS]; omega), g2⟩)
theorem g_Ev_best {σ : eS} {x0 x1 : Int} (h : IA σ) : MtL shA M_Ev_best [vr 0, vi x0, vi x1] σ (fun σ' z => QA σ σ' ∧ ((¬ okBs (tabA σ x0) (σ (x0.toNat + 2) 1) x1 ∧ z = -1) ∨ (okBs (tabA σ x0) (σ (x0.toNat + 2) 1) x1 ∧ bsA (σ (x0.toNat + 2) 1) (fun i j => 0 ≤ cT σ (x0.toNat + 2) i j) (cT σ (x0.toNat + 2)) x1 z))) := t_Ev_best h
theorem g_Mo_best {σ : eS} {x0 x1 : Int} (h : IB σ) : MtL shB M_Mo_best [vr 0, vi x0, vi x1] σ (fun σ' z => QB σ σ' ∧ ((¬ okBs (tabB σ x0) (σ 1 x0) x1 ∧ z = -1) ∨ (okBs (tabB σ x0) (σ 1 x0) x1 ∧ bsA (σ 1 x0) (fun i j => 0 ≤ wk (wo σ x0 (σ 1 x0) (σ 1 x0 * σ 1 x0)) i j) (wk (wo σ x0 (σ 1 x0) (σ 1 x0 * σ 1 x0))) x1 z))) := (t_Mo_best h.1).weaken (fun σ' v q => by obtain ⟨z, e1, g1, g2⟩ := q; exact ⟨z, e1, QB_cg h g1 (fun c k w => by simp only [rgS]; omega), g2⟩)
theorem g_Ev_permanent {σ : eS} {x0 : Int} (h : IA σ) : MtL shA M_Ev_permanent [vr 0, vi x0] σ (fun σ' z => QA σ σ' ∧ ((¬ tabA σ x0 ∧ z = -1) ∨ (tabA σ x0 ∧ pmA (σ (x0.toNat + 2) 1) (cT σ (x0.toNat + 2)) z))) := t_Ev_permanent h
theorem g_Mo_permanent {σ : eS} {x0 : Int} (h : IB σ) : MtL shB M_Mo_permanent [vr 0, vi x0] σ (fun σ' z => QB σ σ' ∧ ((¬ tabB σ x0 ∧ z = -1) ∨ (tabB σ x0 ∧ pmA (σ 1 x0) (cB σ x0) z))) := (t_Mo_permanent h.1).weaken (fun σ' v q => by obtain ⟨z, e1, g1, g2⟩ := q; exact ⟨z, e1, QB_cg h g1 (fun c k w => by simp only [rgU]; omega), g2⟩)
theorem g_Ev_sought {σ : eS} {x0 x1 : Int} (h : IA σ) : MtI shA M_Ev_sought [vr 0, vi x0, vi x1] σ (fun σ' _ => QAk σ σ') := (s_Ev_sought h).weaken (fun σ' v q => by exact q)
theorem g_Mo_sought {σ : eS} {x0 x1 : Int} (h : IB σ) : MtI shB M_Mo_sought [vr 0, vi x0, vi x1] σ (fun σ' _ => QB σ σ') := (s_Mo_sought h.1).weaken (fun σ' v q => by obtain ⟨z, e1, g1⟩ := q; exact ⟨z, e1, QB_cg h g1 (fun c k w => by simp only [rgS]; omega)⟩)
theorem g_Ev_bound {σ : eS} {x0 x1 : Int} (h : IA σ) : MtI shA M_Ev_bound [vr 0, vi x0, vi x1] σ (fun σ' _ => QA σ σ') := (s_Ev_bound h).weaken (fun σ' v q => by exact q)
theorem g_Mo_bound {σ : eS} {x0 x1 : Int} (h : IB σ) : MtI shB M_Mo_bound [vr 0, vi x0, vi x1] σ (fun σ' _ => QB σ σ') := (s_Mo_bound h.1).weaken (fun σ' v q => by obtain ⟨z, e1, g1⟩ := q; exact ⟨z, e1, QB_cg h g1 (fun c k w => by omega)⟩)
theorem g_Ev_show {σ : eS} (h : IA σ) : MtI shA M_Ev_show [vr 0] σ (fun σ' z => QAw σ σ' ∧ z = σ' 46 1 ∧ bfl (fun k => σ' 47 k) (σ' 46 1) (shL (wA σ) (kA σ) (σ 22 4) (σ 22 5).toNat)) := t_Ev_show h
theorem g_Mo_show {σ : eS} (h : IB σ) : MtI shB M_Mo_show [vr 0] σ (fun σ' z => QBw σ σ' ∧ z = σ' 0 42 ∧ bfl (fun k => σ' 23 k) (σ' 0 42) (shL (wB σ) (kB σ) (σ 0 28) (σ 0 27).toNat)) := (t_Mo_show h.2.1).weaken (fun σ' v q => by obtain ⟨z, e1, g1, g2, g3⟩ := q; exact ⟨z, e1, QB_W h g1 g2, g3⟩)
theorem g_Ev_mix {σ : eS} {x0 x1 x2 x3 x4 x5 x6 : Int} (h : IA σ) : MtI shA M_Ev_mix [vr 0, vi x0, vi x1, vi x2, vi x3, vi x4, vi x5, vi x6] σ (fun σ' z => QA0 σ σ' ∧ XmA σ x0 x1 x2 x3 x4 x5 x6 σ' z) := t_Ev_mix h
theorem g_Mo_mix {σ : eS} {x0 x1 x2 x3 x4 x5 x6 : Int} (h : IB σ) : MtI shB M_Mo_mix [vr 0, vi x0, vi x1, vi x2, vi x3, vi x4, vi x5, vi x6] σ (fun σ' z => QB0 σ σ' ∧ XmB σ x0 x1 x2 x3 x4 x5 x6 σ' z) := (t_Mo_mix h.1).weaken (fun σ' v q => by obtain ⟨z, e1, g1, g2⟩ := q; exact ⟨z, e1, QB_M h g1, g2⟩)
theorem g_Ev_times {σ : eS} {x0 x1 x2 : Int} (h : IA σ) : MtI shA M_Ev_times [vr 0, vi x0, vi x1, vi x2] σ (fun σ' z => QA0 σ σ' ∧ XtA σ x0 x1 x2 σ' z) := t_Ev_times h
theorem g_Mo_times {σ : eS} {x0 x1 x2 : Int} (h : IB σ) : MtI shB M_Mo_times [vr 0, vi x0, vi x1, vi x2] σ (fun σ' z => QB0 σ σ' ∧ XtB σ x0 x1 x2 σ' z) := (t_Mo_times h.1).weaken (fun σ' v q => by obtain ⟨z, e1, g1, g2⟩ := q; exact ⟨z, e1, QB_M h g1, g2⟩)
theorem g_Ev_turn {σ : eS} {x0 x1 x2 x3 : Int} (h : IA σ) : MtI shA M_Ev_turn [vr 0, vi x0, vi x1, vi x2, vi x3] σ (fun σ' z => QA0 σ σ' ∧ XuA σ x0 x1 x2 x3 σ' z) := t_Ev_turn h
theorem g_Mo_turn {σ : eS} {x0 x1 x2 x3 : Int} (h : IB σ) : MtI shB M_Mo_turn [vr 0, vi x0, vi x1, vi x2, vi x3] σ (fun σ' z => QB0 σ σ' ∧ XuB σ x0 x1 x2 x3 σ' z) := (t_Mo_turn h.1).weaken (fun σ' v q => by obtain ⟨z, e1, g1, g2⟩ := q; exact ⟨z, e1, QB_M h g1, g2⟩)
end
section
/-! both sides side by side: the tapes -/
def TP (σ τ : eS) : Prop := σ 10 3 = τ 0 6 ∧ aB (σ 11) (τ 5) (τ 0 6) ∧ byt τ ∧ σ 10 4 = τ 0 7 ∧ σ 10 5 = τ 0 8
theorem TP_keep {σ τ σ' τ' : eS} (h : TP σ τ) (a : tpS σ σ') (b : tpB τ τ') : TP σ' τ' := by
  obtain ⟨a1, a2⟩ := a
  obtain ⟨b1, b2, b3, b4⟩ := b
  obtain ⟨h1, h2, h3, h4, h5⟩ := h
  refine ⟨by rw [a1, b1, h1], fun i x y => ?_, fun k x y => ?_, by rw [a1, b2, h4], by rw [a1, b3, h5]⟩
  · rw [a2, b4]; exact h2 i x (by omega)
  · rw [b4]; exact h3 k x (by omega)
theorem TP_feed {σ τ σ' τ' : eS} {zA zB a b c d e : Int} (h : TP σ τ) (qA : (σ 10 3 + 20 ≤ 600 ∧ fdA σ (σ 10 3) a b c d e σ' ∧ zA = σ 10 3 + 20) ∨ (600 < σ 10 3 + 20 ∧ σ' = σ ∧ zA = -1)) (qB : (τ 0 6 + 20 ≤ 600 ∧ τ' = fd τ (τ 0 6) a b c d e ∧ zB = τ 0 6 + 20) ∨ (600 < τ 0 6 + 20 ∧ τ' = τ ∧ zB = -1)) : TP σ' τ' ∧ zA = zB := by
  obtain ⟨h1, h2, h3, h4, h5⟩ := id h
  rcases qA with ⟨a1, a2, a3⟩ | ⟨a1, a2, a3⟩ <;> rcases qB with ⟨b1, b2, b3⟩ | ⟨b1, b2, b3⟩
  · rw [h1] at a2
    subst b2
    refine ⟨⟨by rw [a2.2.1, fd_6], ?_, fun k x y => ?_, ?_, ?_⟩, by omega⟩
    · rw [fd_6]; exact fd_al h2 a2
    · rw [fd_6] at y; exact fd_nn h3 k x y
    · rw [a2.1 10 4 (by simp [rgG]), fd_o _ _ _ _ _ _ _ _ _ (by omega) (by omega)]; exact h4
    · rw [a2.1 10 5 (by simp [rgG]), fd_o _ _ _ _ _ _ _ _ _ (by omega) (by omega)]; exact h5
  · omega
  · omega
  · subst a2; subst b2; exact ⟨h, by omega⟩
theorem TP_end {σ τ σ' τ' : eS} {zA zB n : Int} (h : TP σ τ) (qA : (0 ≤ n ∧ n ≤ σ 10 3 ∧ σ' = up σ 10 3 n ∧ zA = 1) ∨ (¬ (0 ≤ n ∧ n ≤ σ 10 3) ∧ σ' = σ ∧ zA = 0)) (qB : (0 ≤ n ∧ n ≤ τ 0 6 ∧ τ' = up τ 0 6 n ∧ zB = 1) ∨ (¬ (0 ≤ n ∧ n ≤ τ 0 6) ∧ τ' = τ ∧ zB = 0)) : TP σ' τ' ∧ zA = zB := by
  obtain ⟨h1, h2, h3, h4, h5⟩ := id h
  rcases qA with ⟨a1, a2, a3, a4⟩ | ⟨a1, a2, a3⟩ <;> rcases qB with ⟨b1, b2, b3, b4⟩ | ⟨b1, b2, b3⟩
  · subst a3; subst b3
    refine ⟨⟨by rw [up_same, up_same], fun i x y => ?_, fun k x y => ?_, ?_, ?_⟩, by omega⟩
    · rw [up_same] at y
      rw [up_ne _ _ _ _ (by decide), up_ne _ _ _ _ (by decide)]
      exact h2 i x (by omega)
    · rw [up_same] at y
      rw [up_ne _ _ _ _ (by decide)]
      exact h3 k x (by omega)
    · rw [up_nk _ _ _ _ (by decide), up_nk _ _ _ _ (by decide)]; exact h4
    · rw [up_nk _ _ _ _ (by decide), up_nk _ _ _ _ (by decide)]; exact h5
  · omega
  · omega
  · subst a2; subst b2; exact ⟨h, by omega⟩
theorem aO_of {σ τ : eS} (h : TP σ τ) : aO (RAr σ) (RB τ) := by
  unfold RAr RB
  rw [h.1]
  exact PR_al h.2.1 _ _ _ _
theorem TP_table {σ τ σ' τ' : eS} {zA zB s : Int} (h : TP σ τ) (qA : σ' 10 3 = 0 ∧ TA σ s σ' zA) (qB : τ' 0 6 = 0 ∧ TB τ s τ' zB) : TP σ' τ' ∧ zA = zB := by
  have al := aO_of h
  obtain ⟨h1, h2, h3, h4, h5⟩ := id h
  obtain ⟨a6, qA⟩ := qA
  obtain ⟨b6, qB⟩ := qB
  have key : zA = zB ∧ σ' 10 4 = τ' 0 7 ∧ σ' 10 5 = τ' 0 8 := by
    rcases qA with ⟨a0, a1, a2, a3, -⟩ | ⟨a0, aS, a1, -⟩ <;> rcases qB with ⟨b0, b1, b2, b3, -⟩ | ⟨b0, b1, -⟩
    · omega
    · omega
    · omega
    · rw [h1] at a1
      exact tbO_un al aS a1 b1
  exact ⟨⟨by omega, fun i x y => by omega, fun k x y => by omega, key.2.1, key.2.2⟩, key.1⟩
end
section
/-! both sides side by side: the tables -/
def tbE (σ τ : eS) (s : Int) : Prop := σ (s.toNat + 2) 1 = τ 1 s ∧ (τ 1 s ≠ 0 → σ (s.toNat + 2) 2 = τ 2 s) ∧ (τ 1 s = 0 → τ 2 s = 0) ∧ ∀ i j, 0 ≤ i → i < τ 1 s → 0 ≤ j → j < τ 1 s → cT σ (s.toNat + 2) i j = cB τ s i j
def TT (σ τ : eS) : Prop := ∀ s : Int, 0 ≤ s → s < 4 → tbE σ τ s
theorem TT_keepW {σ τ σ' τ' : eS} (h : TT σ τ) (a : tbV σ σ') (b : tbK τ τ') : TT σ' τ' := fun s s1 s2 => by
  obtain ⟨h1, h2, h3, h4⟩ := h s s1 s2
  have e1 : σ' (s.toNat + 2) 1 = σ (s.toNat + 2) 1 := a _ _ (by omega) (by omega) (fun _ => by omega)
  have e2 : σ' (s.toNat + 2) 2 = σ (s.toNat + 2) 2 := a _ _ (by omega) (by omega) (fun _ => by omega)
  refine ⟨by rw [e1, (b s).1, h1], fun q => ?_, fun q => ?_, fun i j p q r w => ?_⟩
  · rw [(b s).1] at q; rw [e2, (b s).2.1]; exact h2 q
  · rw [(b s).1] at q; rw [(b s).2.1]; exact h3 q
  · rw [(b s).1] at q w
    rw [cB_cg b]
    unfold cT
    rw [a _ _ (by omega) (by omega) (fun _ => by omega)]
    exact h4 i j p q r w
theorem TT_keep {σ τ σ' τ' : eS} (h : TT σ τ) (a : tbS σ σ') (b : tbK τ τ') : TT σ' τ' := TT_keepW h a.v b
theorem TT_set {σ τ σ' τ' : eS} {s0 n b b' : Int} {f : Int → Int → Int} (hI : iB1 τ) (h0 : 0 ≤ s0 ∧ s0 < 4) (hn : 0 ≤ n ∧ n ≤ 8) (h : TT σ τ) (a1 : σ' (s0.toNat + 2) 1 = n) (a2 : σ' (s0.toNat + 2) 2 = b) (a3 : ∀ i j, 0 ≤ i → i < n → 0 ≤ j → j < n → σ' (s0.toNat + 2 + 4) (i * 8 + j) = f i j) (a4 : tbX σ σ' (s0.toNat + 2)) (b1 : ∀ k, τ' 1 k = if k = s0 then n else τ 1 k) (b2 : ∀ k, τ' 2 k = if k = s0 then b' else τ 2 k) (hb : n ≠ 0 → b = b') (hb0 : n = 0 → b' = 0) (b3 : ∀ k, ¬ (64 * s0 ≤ k ∧ k < 64 * s0 + n * n) → τ' 3 k = τ 3 k) (b4 : ∀ i j, 0 ≤ i → i < n → 0 ≤ j → j < n → τ' 3 (64 * s0 + (n * i + j)) = f i j) : TT σ' τ' := fun s s1 s2 => by
  by_cases q : s = s0
  · subst q
    have e1 : τ' 1 s = n := by rw [b1, if_pos rfl]
    have e2 : τ' 2 s = b' := by rw [b2, if_pos rfl]
    refine ⟨by rw [a1, e1], fun w => ?_, fun w => ?_, fun i j p q r w => ?_⟩
    · rw [a2, e2]; exact hb (by omega)
    · rw [e2]; exact hb0 (by omega)
    · rw [e1] at q w
      unfold cT cB
      rw [a3 i j p q r w, e1, Int.add_assoc, b4 i j p q r w]
  · obtain ⟨h1, h2, h3, h4⟩ := h s s1 s2
    obtain ⟨g1, g2, -⟩ := hI.1 s s1 s2
    have e1 : τ' 1 s = τ 1 s := by rw [b1, if_neg q]
    have e2 : τ' 2 s = τ 2 s := by rw [b2, if_neg q]
    have c1 : σ' (s.toNat + 2) 1 = σ (s.toNat + 2) 1 := a4.1 _ _ (by omega) (by omega) (by omega) (by omega)
    have c2 : σ' (s.toNat + 2) 2 = σ (s.toNat + 2) 2 := a4.1 _ _ (by omega) (by omega) (by omega) (by omega)
    have sq := sq8 hn
    refine ⟨by rw [c1, e1, h1], fun w => ?_, fun w => ?_, fun i j p q' r w => ?_⟩
    · rw [e1] at w; rw [c2, e2]; exact h2 w
    · rw [e1] at w; rw [e2]; exact h3 w
    · rw [e1] at q' w
      obtain ⟨y1, y2, y3, y4⟩ := ix8 (n := τ 1 s) (i := i) (j := j) ⟨g1, g2⟩ ⟨p, q'⟩ ⟨r, w⟩
      have := h4 i j p q' r w
      unfold cT cB at this ⊢
      rw [a4.1 _ _ (by omega) (by omega) (by omega) (by omega), e1, b3 _ (by omega)]
      exact this
theorem MAB {σ τ σ' τ' : eS} {s n b zA zB : Int} {f f' : Int → Int → Int} (hI : iB1 τ) (hs : 0 ≤ s ∧ s < 4) (hn : 1 ≤ n ∧ n ≤ 8) (h : TT σ τ) (hA : MA σ (s.toNat + 2) n b f σ' zA) (hB : MB τ s n b f' τ' zB) (e : ∀ i j, 0 ≤ i → i < n → 0 ≤ j → j < n → f i j = f' i j) : TT σ' τ' ∧ zA = zB := by
  obtain ⟨g, g1, g2⟩ := hA
  obtain ⟨g', g3, g4⟩ := hB
  have eg := isG_un g1 g3 e
  subst eg
  have ef := fitM_cg (g := g) (b := b) e
  rcases g2 with ⟨a1, a2, a3⟩ | ⟨a1, a2, a3, a4, a5, a6⟩ <;> rcases g4 with ⟨b1, b2, b3⟩ | ⟨b1, b2, b3, b4, b5, b6⟩
  · exact ⟨TT_keep h a3 b3, by omega⟩
  · exact absurd (ef.mpr b2) a2
  · exact absurd (ef.mp a2) b2
  · exact ⟨TT_set (f := fun i j => f i j / g) hI hs ⟨by omega, by omega⟩ h a3 a4 a5 a6 b3 b4 (fun _ => rfl) (fun q => by omega) b5 (fun i j p q r w => by rw [b6 i j p q r w, e i j p q r w]), by omega⟩
theorem tab_al {σ τ : eS} (hI : iB1 τ) (h : TT σ τ) (s : Int) : tabA σ s ↔ tabB τ s := by
  unfold tabA tabB
  constructor
  · rintro ⟨a, b, c⟩
    have := (h s a b).1
    have := (hI.1 s a b).1
    exact ⟨a, b, by omega⟩
  · rintro ⟨a, b, c⟩
    have := (h s a b).1
    exact ⟨a, b, by omega⟩
theorem like_al {σ τ : eS} (hI : iB1 τ) (h : TT σ τ) (s o w : Int) : likeA σ s o w ↔ likeB τ s o w := by
  unfold likeA likeB tabB
  constructor
  · rintro ⟨a1, a2, a3, a4, a5, a6, a7, a8⟩
    have := (h s a1 a2).1
    have := (h o a3 a4).1
    have := (hI.1 s a1 a2).1
    exact ⟨⟨a1, a2, by omega⟩, ⟨a3, a4, by omega⟩, ⟨a5, a6⟩, by omega⟩
  · rintro ⟨⟨a1, a2, a3⟩, ⟨b1, b2, b3⟩, ⟨c1, c2⟩, d⟩
    have := (h s a1 a2).1
    have := (h o b1 b2).1
    exact ⟨a1, a2, b1, b2, c1, c2, by omega, by omega⟩
theorem TT_times {σ τ σ' τ' : eS} {s o w zA zB : Int} (hI : iB1 τ) (h : TT σ τ) (qA : XtA σ s o w σ' zA) (qB : XtB τ s o w τ' zB) : TT σ' τ' ∧ zA = zB := by
  have hl := like_al hI h s o w
  rcases qA with ⟨a1, a2, a3⟩ | ⟨a1, a2⟩ <;> rcases qB with ⟨b1, b2, b3⟩ | ⟨b1, b2⟩
  · exact ⟨TT_keep h a2 b2, by omega⟩
  · exact absurd (hl.mpr b1) a3
  · exact absurd (hl.mp a1) b3
  · obtain ⟨⟨s1, s2, s3⟩, ⟨o1, o2, o3⟩, w1, e⟩ := b1
    obtain ⟨h1, h2, -, h4⟩ := h s s1 s2
    obtain ⟨k1, k2, -, k4⟩ := h o o1 o2
    have g := hI.1 s s1 s2
    rw [h1, h2 (by omega), k2 (by omega)] at a2
    refine MAB hI w1 ⟨by omega, by omega⟩ h a2 b2 (fun i j p q r x => ?_)
    unfold pdF pdB
    rw [h1]
    refine sm_cg (fun k k0 kn => ?_)
    rw [h4 i k p q k0 (by omega), k4 k j k0 (by omega) r (by omega)]
theorem TT_turn {σ τ σ' τ' : eS} {s w r o zA zB : Int} (hI : iB1 τ) (h : TT σ τ) (qA : XuA σ s w r o σ' zA) (qB : XuB τ s w r o τ' zB) : TT σ' τ' ∧ zA = zB := by
  by_cases hs : 0 ≤ s ∧ s < 4
  · obtain ⟨h1, h2, -, h4⟩ := h s hs.1 hs.2
    have g := hI.1 s hs.1 hs.2
    unfold XuA at qA
    rw [h1] at qA
    rcases qA with ⟨a1, a2, a3⟩ | ⟨a1, a2⟩ <;> rcases qB with ⟨b1, b2, b3⟩ | ⟨b1, b2⟩
    · exact ⟨TT_keep h a2 b2, by omega⟩
    · exact absurd b1 a3
    · exact absurd a1 b3
    · obtain ⟨⟨-, -, c1⟩, c2, c3, c4⟩ := b1
      rw [h2 c1] at a2
      refine MAB hI c2 ⟨by omega, by omega⟩ h a2 b2 (fun i j p q r' x => ?_)
      obtain ⟨t1, t2, -, -⟩ := tn_tg (n := τ 1 s) c3 c4 ⟨p, q⟩ ⟨r', x⟩
      unfold tuF tuB
      exact h4 _ _ t1.1 t1.2 t2.1 t2.2
  · rcases qA with ⟨a1, a2, a3⟩ | ⟨a1, a2⟩
    · rcases qB with ⟨b1, b2, b3⟩ | ⟨b1, b2⟩
      · exact ⟨TT_keep h a2 b2, by omega⟩
      · exact absurd ⟨b1.1.1, b1.1.2.1⟩ hs
    · exact absurd ⟨a1.1.1, a1.1.2.1⟩ hs
theorem TT_mix {σ τ σ' τ' : eS} {s x y o u v w zA zB : Int} (hI : iB1 τ) (h : TT σ τ) (qA : XmA σ s x y o u v w σ' zA) (qB : XmB τ s x y o u v w τ' zB) : TT σ' τ' ∧ zA = zB := by
  have hl := like_al hI h s o w
  rcases qA with ⟨a1, a2, a3⟩ | ⟨a1, a2⟩ <;> rcases qB with ⟨b1, b2, b3⟩ | ⟨b1, b2⟩
  · exact ⟨TT_keep h a2 b2, by omega⟩
  · exact absurd ⟨b1.1, b1.2.1, hl.mpr b1.2.2⟩ a3
  · exact absurd ⟨a1.1, a1.2.1, hl.mp a1.2.2⟩ b3
  · obtain ⟨-, -, ⟨s1, s2, s3⟩, ⟨o1, o2, o3⟩, w1, e⟩ := b1
    obtain ⟨h1, h2, -, h4⟩ := h s s1 s2
    obtain ⟨k1, k2, -, k4⟩ := h o o1 o2
    have g := hI.1 s s1 s2
    unfold MXA at a2
    unfold MXB at b2
    rw [h1, h2 (by omega), k2 (by omega)] at a2
    obtain ⟨L, eL⟩ : ∃ L, L = lcS (y * τ 2 s) (v * τ 2 o) 1000000000 := ⟨_, rfl⟩
    rw [← eL] at a2 b2
    have ef : ∀ i j, 0 ≤ i → i < τ 1 s → 0 ≤ j → j < τ 1 s → mxF σ (s.toNat + 2) (o.toNat + 2) x (L / (y * τ 2 s)) u (L / (v * τ 2 o)) i j = mxB τ s o x (L / (y * τ 2 s)) u (L / (v * τ 2 o)) i j := fun i j p q r c => by
      unfold mxF mxB
      rw [h4 i j p q r c, k4 i j p (by omega) r (by omega)]
    rcases a2 with ⟨c1, c2, c3⟩ | ⟨c1, ⟨c2, c3, i, j, c4, c5, c6, c7, c8⟩ | ⟨c2, c3⟩⟩ <;> rcases b2 with ⟨d1, d2, d3⟩ | ⟨d1, ⟨d2, d3, i', j', d4, d5, d6, d7, d8⟩ | ⟨d2, d3⟩⟩
    · exact ⟨TT_keep h c2 d2, by omega⟩
    · omega
    · omega
    · omega
    · exact ⟨TT_keep h c3 d3, by omega⟩
    · have := d2 i j c4 c5 c6 c7
      rw [ef i j c4 c5 c6 c7] at c8
      omega
    · omega
    · have := c2 i' j' d4 d5 d6 d7
      rw [ef i' j' d4 d5 d6 d7] at this
      omega
    · exact MAB hI w1 ⟨by omega, by omega⟩ h c3 d3 ef
theorem TT_table {σ τ σ' τ' : eS} {zA zB s : Int} (hI : iB1 τ) (hA : IA σ') (h : TP σ τ) (ht : TT σ τ) (qA : σ' 10 3 = 0 ∧ TA σ s σ' zA) (qB : τ' 0 6 = 0 ∧ TB τ s τ' zB) : TT σ' τ' := by
  have al := aO_of h
  have key := (TP_table h qA qB).1
  have e4 := key.2.2.2.1
  obtain ⟨-, qA⟩ := qA
  obtain ⟨-, qB⟩ := qB
  rcases qA with ⟨a0, a1, a2, a3, a4⟩ | ⟨a0, aS, a1, a2⟩ <;> rcases qB with ⟨b0, b1, b2, b3, b4⟩ | ⟨b0, b1, b2⟩
  · exact TT_keep ht a4 b4
  · exact absurd b0 a0
  · exact absurd a0 b0
  · rcases a2 with ⟨a2, a3⟩ | ⟨a2, ⟨c1, c2, c3⟩, a4⟩ <;> rcases b2 with ⟨b2, b3⟩ | ⟨b2, d1, d2, d3, d4⟩
    · exact TT_keep ht a3 b3
    · omega
    · omega
    · have r0 : (RAr σ).1 = 0 := by
        rcases a1 with ⟨w, -, w2, -⟩ | ⟨w, -⟩ | ⟨w, -⟩
        · omega
        · exact w
        · exact w
      obtain ⟨e1, e2, e3, e5⟩ := oG_cg al aS r0
      have hT := (hA.2.1 _ (sl_tA a0)).1
      have n1 := hT.1
      have n2 := hT.2.1
      rw [c1] at n1 n2
      rw [← e1] at d1 d2 d3 d4
      rw [← e2] at d2 d4
      refine TT_set (n := oN (RAr σ)) (f := fun i j => oAb (RAr σ) (i * 8 + j) * (oB (RAr σ) / oUn (RAr σ) (i * 8 + j))) hI a0 ⟨n1, n2⟩ ht c1 c2 c3 a4 d1 d2 (fun q => by rw [if_neg q]) (fun q => by rw [if_pos q]) d3 (fun i j p q r w => ?_)
      rw [d4 i j p q r w, (e5 i j p q r w).1, (e5 i j p q r w).2]
/-! what is read off the tables -/
theorem row_al {σ τ : eS} {s i : Int} (h : tbE σ τ s) (hi : 0 ≤ i ∧ i < τ 1 s) : rowT σ (s.toNat + 2) i = rowB τ s i := by
  unfold rowT rowB
  rw [h.1]
  exact sm_cg (fun k a b => h.2.2.2 i k hi.1 hi.2 a (by omega))
theorem col_al {σ τ : eS} {s j : Int} (h : tbE σ τ s) (hj : 0 ≤ j ∧ j < τ 1 s) : colT σ (s.toNat + 2) j = colB τ s j := by
  unfold colT colB
  rw [h.1]
  exact sm_cg (fun k a b => h.2.2.2 k j a (by omega) hj.1 hj.2)
theorem unev_un {row col row' col' : Int → Int} {n z z' : Int} (hn : 0 < n) (h : unev row col n z) (h' : unev row' col' n z') (er : ∀ i, 0 ≤ i → i < n → row i = row' i) (ec : ∀ i, 0 ≤ i → i < n → col i = col' i) : z = z' := by
  have e0 := er 0 (by omega) hn
  rcases h with ⟨i, a1, a2, a3, a4, a5⟩ | ⟨a0, ⟨j, a1, a2, a3, a4, a5⟩ | ⟨a1, a2⟩⟩ <;> rcases h' with ⟨i', b1, b2, b3, b4, b5⟩ | ⟨b0, ⟨j', b1, b2, b3, b4, b5⟩ | ⟨b1, b2⟩⟩
  · have x1 := er i (by omega) a2
    have x2 := er i' (by omega) b2
    rcases (by omega : i < i' ∨ i = i' ∨ i' < i) with q | q | q
    · have := b5 i a1 q; omega
    · omega
    · have := a5 i' b1 q; omega
  · have x1 := er i (by omega) a2
    have := b0 i a1 a2
    omega
  · have x1 := er i (by omega) a2
    have := b0 i a1 a2
    omega
  · have x1 := er i' (by omega) b2
    have := a0 i' b1 b2
    omega
  · have x1 := ec j a1 a2
    have x2 := ec j' b1 b2
    rcases (by omega : j < j' ∨ j = j' ∨ j' < j) with q | q | q
    · have := b5 j a1 q; omega
    · omega
    · have := a5 j' b1 q; omega
  · have x1 := ec j a1 a2
    have := b2 j a1 a2
    omega
  · have x1 := er i' (by omega) b2
    have := a0 i' b1 b2
    omega
  · have x1 := ec j' b1 b2
    have := a2 j' b1 b2
    omega
  · omega
theorem cell_al {σ τ : eS} {s i j zA zB : Int} (hI : iB1 τ) (h : TT σ τ) (qA : (celA σ s i j ∧ zA = cT σ (s.toNat + 2) i j) ∨ (¬ celA σ s i j ∧ zA = -1)) (qB : (celB τ s i j ∧ zB = cB τ s i j) ∨ (¬ celB τ s i j ∧ zB = -1)) : zA = zB := by
  have hl : celA σ s i j ↔ celB τ s i j := by
    unfold celA celB tabB
    constructor
    · rintro ⟨a1, a2, a3, a4, a5, a6⟩
      have := (h s a1 a2).1
      exact ⟨⟨a1, a2, by omega⟩, a3, by omega, a5, by omega⟩
    · rintro ⟨⟨a1, a2, a3⟩, a4, a5, a6, a7⟩
      have := (h s a1 a2).1
      exact ⟨a1, a2, a4, by omega, a6, by omega⟩
  rcases qA with ⟨a1, a2⟩ | ⟨a1, a2⟩ <;> rcases qB with ⟨b1, b2⟩ | ⟨b1, b2⟩
  · obtain ⟨⟨s1, s2, s3⟩, c1, c2, c3, c4⟩ := b1
    rw [a2, b2]
    exact (h s s1 s2).2.2.2 i j c1 c2 c3 c4
  · exact absurd (hl.mp a1) b1
  · exact absurd (hl.mpr b1) a1
  · omega
theorem uneven_al {σ τ : eS} {s zA zB : Int} (hI : iB1 τ) (h : TT σ τ) (qA : (¬ tabA σ s ∧ zA = -1) ∨ (tabA σ s ∧ unev (rowT σ (s.toNat + 2)) (colT σ (s.toNat + 2)) (σ (s.toNat + 2) 1) zA)) (qB : (¬ tabB τ s ∧ zB = -1) ∨ (tabB τ s ∧ unev (rowB τ s) (colB τ s) (τ 1 s) zB)) : zA = zB := by
  have hl := tab_al hI h s
  rcases qA with ⟨a1, a2⟩ | ⟨a1, a2⟩ <;> rcases qB with ⟨b1, b2⟩ | ⟨b1, b2⟩
  · omega
  · exact absurd (hl.mpr b1) a1
  · exact absurd (hl.mp a1) b1
  · obtain ⟨s1, s2, s3⟩ := b1
    have e := h s s1 s2
    rw [e.1] at a2
    exact unev_un s3 a2 b2 (fun i a b => row_al e ⟨a, b⟩) (fun i a b => col_al e ⟨a, b⟩)
end
section
/-! answers read off alike tables -/
section AL0
theorem lackV_cg {n : Int} {op op' : Int → Int → Prop} {w : Int} (hn : n ≤ 8) (e : ∀ i j, 0 ≤ i → i < n → 0 ≤ j → j < n → (op i j ↔ op' i j)) : lackV n op w = lackV n op' w := by
  have ec : ∀ s, cP n op s = cP n op' s := fun s => by
    unfold cP
    congr 1
    funext z
    exact propext ⟨fun q => cOp_cg q e, fun q => cOp_cg q (fun i j a b c d => (e i j a b c d).symm)⟩
  have ef : lkF n op = lkF n op' := by funext s; unfold lkF; rw [ec]
  unfold lackV
  rw [ef, ec]
end AL0
section AL
variable {σ τ : eS} {zA zB : Int}
theorem tb_n (hI : iB1 τ) {s : Int} (ht : tabB τ s) : 1 ≤ τ 1 s ∧ τ 1 s ≤ 8 := ⟨by have := ht.2.2; omega, (hI.1 s ht.1 ht.2.1).2.1⟩
theorem lack_al {x0 x1 x2 : Int} (hI : iB1 τ) (h : TT σ τ) (qA : (¬ okL (tabA σ x0) x1 x2 ∧ zA = -1) ∨ (okL (tabA σ x0) x1 x2 ∧ zA = lackV (σ (x0.toNat + 2) 1) (fun i j => x1 ≤ cT σ (x0.toNat + 2) i j) x2)) (qB : (¬ okL (tabB τ x0) x1 x2 ∧ zB = -1) ∨ (okL (tabB τ x0) x1 x2 ∧ zB = lackV (τ 1 x0) (fun i j => x1 ≤ cB τ x0 i j) x2)) : zA = zB := by
  have hl := tab_al hI h x0
  rcases qA with ⟨a1, a2⟩ | ⟨a1, a2⟩ <;> rcases qB with ⟨b1, b2⟩ | ⟨b1, b2⟩
  · omega
  · exact absurd (⟨hl.mpr b1.1, b1.2⟩) a1
  · exact absurd (⟨hl.mp a1.1, a1.2⟩) b1
  · have n := tb_n hI b1.1
    obtain ⟨e1, -, -, e4⟩ := h x0 b1.1.1 b1.1.2.1
    rw [e1] at a2
    rw [a2, b2]
    exact lackV_cg n.2 (fun i j p q r w => by rw [e4 i j p q r w])
theorem perm_al {x0 : Int} (hI : iB1 τ) (h : TT σ τ) (qA : (¬ tabA σ x0 ∧ zA = -1) ∨ (tabA σ x0 ∧ pmA (σ (x0.toNat + 2) 1) (cT σ (x0.toNat + 2)) zA)) (qB : (¬ tabB τ x0 ∧ zB = -1) ∨ (tabB τ x0 ∧ pmA (τ 1 x0) (cB τ x0) zB)) : zA = zB := by
  have hl := tab_al hI h x0
  rcases qA with ⟨a1, a2⟩ | ⟨a1, a2⟩ <;> rcases qB with ⟨b1, b2⟩ | ⟨b1, b2⟩
  · omega
  · exact absurd (hl.mpr b1) a1
  · exact absurd (hl.mp a1) b1
  · have n := tb_n hI b1
    obtain ⟨e1, -, -, e4⟩ := h x0 b1.1 b1.2.1
    rw [e1] at a2
    exact pmA_un n e4 a2 b2
theorem ways_al {x0 x1 : Int} (hI : iB1 τ) (h : TT σ τ) (qA : (¬ okW (tabA σ x0) x1 ∧ zA = -1) ∨ (okW (tabA σ x0) x1 ∧ zA = wyV (σ (x0.toNat + 2) 1) (fun i j => x1 ≤ cT σ (x0.toNat + 2) i j))) (qB : (¬ okW (tabB τ x0) x1 ∧ zB = -1) ∨ (okW (tabB τ x0) x1 ∧ zB = wyV (τ 1 x0) (fun i j => x1 ≤ cB τ x0 i j))) : zA = zB := by
  have hl := tab_al hI h x0
  rcases qA with ⟨a1, a2⟩ | ⟨a1, a2⟩ <;> rcases qB with ⟨b1, b2⟩ | ⟨b1, b2⟩
  · omega
  · exact absurd (⟨hl.mpr b1.1, b1.2⟩) a1
  · exact absurd (⟨hl.mp a1.1, a1.2⟩) b1
  · have n := tb_n hI b1.1
    obtain ⟨e1, -, -, e4⟩ := h x0 b1.1.1 b1.1.2.1
    rw [e1] at a2
    rw [a2, b2]
    unfold wyV
    have b := bit2 (n := τ 1 x0) ⟨by omega, n.2⟩
    refine PMv_cg ⟨by omega, n.2⟩ (fun i j p q r w => ?_) ⟨by omega, by omega⟩
    have e := e4 i j p q r w
    by_cases c : x1 ≤ cT σ (x0.toNat + 2) i j
    · rw [if_pos c, if_pos (by show x1 ≤ cB τ x0 i j; omega)]
    · rw [if_neg c, if_neg (by show ¬ x1 ≤ cB τ x0 i j; omega)]
theorem widest_al {x0 : Int} (hI : iB1 τ) (h : TT σ τ) (qA : (¬ tabA σ x0 ∧ zA = -1) ∨ (tabA σ x0 ∧ wdA (σ (x0.toNat + 2) 1) (fun i j => 0 ≤ cT σ (x0.toNat + 2) i j) (cT σ (x0.toNat + 2)) zA)) (qB : (¬ tabB τ x0 ∧ zB = -1) ∨ (tabB τ x0 ∧ wdA (τ 1 x0) (fun i j => 0 ≤ wk (wo τ x0 (τ 1 x0) (τ 1 x0 * τ 1 x0)) i j) (wk (wo τ x0 (τ 1 x0) (τ 1 x0 * τ 1 x0))) zB)) : zA = zB := by
  have hl := tab_al hI h x0
  rcases qA with ⟨a1, a2⟩ | ⟨a1, a2⟩ <;> rcases qB with ⟨b1, b2⟩ | ⟨b1, b2⟩
  · omega
  · exact absurd (hl.mpr b1) a1
  · exact absurd (hl.mp a1) b1
  · have n := tb_n hI b1
    obtain ⟨e1, -, -, e4⟩ := h x0 b1.1 b1.2.1
    rw [e1] at a2
    have ew := wo_wkB hI b1
    exact wdA_un n (fun i j p q r w => by rw [e4 i j p q r w, ew i j p q r w]) (fun i j p q r w => by rw [e4 i j p q r w, ew i j p q r w]) a2 b2
theorem best_al {x0 x1 : Int} (hI : iB1 τ) (h : TT σ τ) (qA : (¬ okBs (tabA σ x0) (σ (x0.toNat + 2) 1) x1 ∧ zA = -1) ∨ (okBs (tabA σ x0) (σ (x0.toNat + 2) 1) x1 ∧ bsA (σ (x0.toNat + 2) 1) (fun i j => 0 ≤ cT σ (x0.toNat + 2) i j) (cT σ (x0.toNat + 2)) x1 zA)) (qB : (¬ okBs (tabB τ x0) (τ 1 x0) x1 ∧ zB = -1) ∨ (okBs (tabB τ x0) (τ 1 x0) x1 ∧ bsA (τ 1 x0) (fun i j => 0 ≤ wk (wo τ x0 (τ 1 x0) (τ 1 x0 * τ 1 x0)) i j) (wk (wo τ x0 (τ 1 x0) (τ 1 x0 * τ 1 x0))) x1 zB)) : zA = zB := by
  have hl := tab_al hI h x0
  have ho : okBs (tabA σ x0) (σ (x0.toNat + 2) 1) x1 ↔ okBs (tabB τ x0) (τ 1 x0) x1 := by
    unfold okBs
    constructor
    · rintro ⟨a, b⟩
      have t := hl.mp a
      rw [(h x0 t.1 t.2.1).1] at b
      exact ⟨t, b⟩
    · rintro ⟨a, b⟩
      rw [← (h x0 a.1 a.2.1).1] at b
      exact ⟨hl.mpr a, b⟩
  rcases qA with ⟨a1, a2⟩ | ⟨a1, a2⟩ <;> rcases qB with ⟨b1, b2⟩ | ⟨b1, b2⟩
  · omega
  · exact absurd (ho.mpr b1) a1
  · exact absurd (ho.mp a1) b1
  · have n := tb_n hI b1.1
    obtain ⟨e1, -, -, e4⟩ := h x0 b1.1.1 b1.1.2.1
    rw [e1] at a2
    have ew := wo_wkB hI b1.1
    exact bsA_un n b1.2 (fun i j p q r w => by rw [e4 i j p q r w, ew i j p q r w]) (fun i j p q r w => by rw [e4 i j p q r w, ew i j p q r w]) a2 b2
end AL
end
section
/-! both sides side by side: the parts kept -/
def MM (σ τ : eS) : Prop := (σ 22 2 = τ 0 30 ∧ σ 22 4 = τ 0 28 ∧ σ 22 5 = τ 0 27 ∧ σ 22 6 = τ 0 29) ∧ (σ 22 3 = if τ 0 30 = 2 then τ 0 31 else τ 0 28) ∧ (τ 0 27 = 0 → τ 0 28 = 0) ∧ ∀ q, 0 ≤ q → q < τ 0 27 → wA σ q = wB τ q ∧ ∀ i, 0 ≤ i → i < τ 0 28 → kA σ q i = kB τ q i
theorem MM_keep {σ τ σ' τ' : eS} (h : MM σ τ) (a : miS σ σ') (b : miK τ τ') : MM σ' τ' := by
  have a2 : ∀ k, σ' 22 k = σ 22 k := fun k => a _ _ (by decide) (by decide)
  have b27 := b 0 27 (by omega)
  have b28 := b 0 28 (by omega)
  have b29 := b 0 29 (by omega)
  have b30 := b 0 30 (by omega)
  have b31 := b 0 31 (by omega)
  have aw : wA σ' = wA σ := by funext q; exact a _ _ (by decide) (by decide)
  have ak : kA σ' = kA σ := by funext q i; exact a _ _ (by decide) (by decide)
  have bw : wB τ' = wB τ := by funext q; exact b _ _ (by omega)
  have bk : kB τ' = kB τ := by funext q i; exact b _ _ (by omega)
  unfold MM
  rw [a2, a2, a2, a2, a2, b27, b28, b29, b30, b31, aw, ak, bw, bk]
  exact h
section G5
variable {σ τ σ' τ' : eS} {zA zB : Int}
theorem ev_al (hI : iB1 τ) (hA : IA σ) (h : TT σ τ) (s : Int) : evA σ s ↔ evB τ s := by
  constructor
  · rintro ⟨s1, s2, q⟩
    have e := h s s1 s2
    rcases (hA.2.1 _ (sl_tA ⟨s1, s2⟩)).2 with w | ⟨w, -⟩
    · exact absurd w.1 q
    · have n1 := w.1
      rw [e.1] at n1
      refine ⟨⟨s1, s2, n1⟩, ?_, fun k a b => ?_, fun k a b => ?_⟩
      · rw [← row_al e ⟨by omega, n1⟩]; exact w.2.1
      · rw [← row_al e ⟨a, b⟩, ← row_al e ⟨by omega, n1⟩]; exact w.2.2.1 k a (by rw [e.1]; exact b)
      · rw [← col_al e ⟨a, b⟩, ← row_al e ⟨by omega, n1⟩]; exact w.2.2.2 k a (by rw [e.1]; exact b)
  · rintro ⟨⟨s1, s2, n1⟩, w1, w2, w3⟩
    have e := h s s1 s2
    refine ⟨s1, s2, fun q => ?_⟩
    rcases (hA.2.1 _ (sl_tA ⟨s1, s2⟩)).2 with w | ⟨w, v⟩
    · refine w.2 ⟨by rw [e.1]; exact n1, ?_, fun k a b => ?_, fun k a b => ?_⟩
      · rw [row_al e ⟨by omega, n1⟩]; exact w1
      · rw [e.1] at b; rw [row_al e ⟨a, b⟩, row_al e ⟨by omega, n1⟩]; exact w2 k a b
      · rw [e.1] at b; rw [col_al e ⟨a, b⟩, row_al e ⟨by omega, n1⟩]; exact w3 k a b
    · have := w.2.1
      omega
theorem MM_mx {kind n rows m r : Int} {W V : Int → Int → Int} (hr : 1 ≤ rows ∧ rows ≤ 8) (hm : 1 ≤ m) (ag0 : ag rows W V) (hA : mpA σ σ' kind n rows m r zA W) (hB : mpB τ τ' kind rows m r zB V) (hk : iK τ) (hn : n = if kind = 2 then τ' 0 31 else rows) : MM σ' τ' ∧ zA = zB := by
  obtain ⟨-, -, -, -, ⟨a1, a2, a3, a4, a5⟩, a6⟩ := hA
  obtain ⟨⟨-, bk⟩, ⟨b1, b2, b3, b4⟩, b5⟩ := hB
  obtain ⟨e, p⟩ := PE_un hr ag0 a6 b5
  have ik := bk hk
  have z1 : τ' 0 27 = 0 → τ' 0 28 = 0 := fun q => by
    have s := ik.2.2.2.2.2.2.1.2
    rw [q] at s
    have s : (0 : Int) = τ' 0 29 := s
    omega
  refine ⟨⟨⟨by rw [a1, b1], by rw [a3, b2], by rw [a4, b3, e], by rw [a5, b4]⟩, by rw [a2, b1, b2, hn], z1, fun q x y => ?_⟩, e⟩
  have := p q x (by omega)
  exact ⟨this.1, fun i u v => this.2 i u (by omega)⟩
theorem MM_peel {s r : Int} (hI : IB τ) (hA : IA σ) (h : TT σ τ) (m : MM σ τ) (qA : XpA σ s r σ' zA) (qB : XpB τ s r τ' zB) : MM σ' τ' ∧ zA = zB := by
  have ev := ev_al hI.1 hA h s
  rcases qA with ⟨a1, a2, a3⟩ | ⟨a1, a2⟩ <;> rcases qB with ⟨b1, b2, b3⟩ | ⟨b1, b2⟩
  · rw [a2, b2, a3, b3]; exact ⟨m, rfl⟩
  · exact absurd ⟨ev.mpr b1.1, b1.2⟩ a1
  · exact absurd ⟨ev.mp a1.1, a1.2⟩ b1
  · obtain ⟨⟨s1, s2, n1⟩, w1, -⟩ := b1.1
    have e := h s s1 s2
    have tn := (hI.1.1 s s1 s2).2.1
    have em : σ (s.toNat + 2) 3 = rowB τ s 0 := by
      rcases (hA.2.1 _ (sl_tA ⟨s1, s2⟩)).2 with w | ⟨-, w⟩
      · exact absurd w.1 a1.1.2.2
      · rw [w, row_al e ⟨by omega, n1⟩]
    rw [e.1, em] at a2
    exact MM_mx ⟨by omega, tn⟩ (by omega) (fun i j a b c d => e.2.2.2 i j a b c d) a2 b2 hI.2.1 (by rw [if_neg (by decide)])
theorem tg_cg {n v : Int} {c c' : Int → Int → Int} {row row' col col' : Int → Int} (hc : ag n c c') (hr : ∀ k, 0 ≤ k → k < n → row k = row' k ∧ col k = col' k) {a b : Int} (ha : 0 ≤ a ∧ a < 2 * n) (hb : 0 ≤ b ∧ b < 2 * n) : tg n v c row col n 0 a b = tg n v c' row' col' n 0 a b := by
  unfold tg
  by_cases q1 : a < n
  · rw [if_pos q1, if_pos q1]
    by_cases q2 : b < n
    · rw [if_pos q2, if_pos q2, hc a b ha.1 q1 hb.1 q2]
    · rw [if_neg q2, if_neg q2, (hr a ha.1 q1).1]
  · rw [if_neg q1, if_neg q1]
    by_cases q2 : b < n
    · rw [if_pos q2, if_pos q2, (hr b hb.1 q2).2]
    · rw [if_neg q2, if_neg q2, hc (b - n) (a - n) (by omega) (by omega) (by omega) (by omega)]
theorem any_al {n : Int} {c c' : Int → Int → Int} (h : ag n c c') : anyP n c ↔ anyP n c' := by
  constructor
  · rintro ⟨i, j, a, b, d⟩; exact ⟨i, j, a, b, by rw [← h i j a.1 a.2 b.1 b.2]; exact d⟩
  · rintro ⟨i, j, a, b, d⟩; exact ⟨i, j, a, b, by rw [h i j a.1 a.2 b.1 b.2]; exact d⟩
theorem MM_shop {s r : Int} (hI : IB τ) (hA : IA σ) (h : TT σ τ) (m : MM σ τ) (qA : XsA σ s r σ' zA) (qB : XsB τ s r τ' zB) : MM σ' τ' ∧ zA = zB := by
  have ta := tab_al hI.1 h s
  have ok : okS (tabA σ s) (anyP (σ (s.toNat + 2) 1) (cT σ (s.toNat + 2))) (σ (s.toNat + 2) 1) r ↔ okS (tabB τ s) (anyP (τ 1 s) (cB τ s)) (τ 1 s) r := by
    unfold okS
    rw [ta]
    constructor
    · rintro ⟨t, w⟩
      have e := h s t.1 t.2.1
      rw [e.1, any_al (fun i j a b c d => e.2.2.2 i j a b c d)] at w
      exact ⟨t, w⟩
    · rintro ⟨t, w⟩
      have e := h s t.1 t.2.1
      rw [e.1, any_al (fun i j a b c d => e.2.2.2 i j a b c d)]
      exact ⟨t, w⟩
  rcases qA with ⟨a1, a2, a3⟩ | ⟨a1, L, a2, a3⟩ <;> rcases qB with ⟨b1, b2, b3⟩ | ⟨b1, L', b2, b3, b4⟩
  · rw [a2, b2, a3, b3]; exact ⟨m, rfl⟩
  · exact absurd (ok.mpr b1) a1
  · exact absurd (ok.mp a1) b1
  · obtain ⟨s1, s2, n1⟩ := b1.1
    have e := h s s1 s2
    have n4 := b1.2.1
    have hT := (hA.2.1 _ (sl_tA ⟨s1, s2⟩)).1
    have L1 := gr_pos hT a2 a1.2.2.1
    unfold shW at a3
    rw [e.1] at a2 a3
    have rc : ∀ k, 0 ≤ k → k < τ 1 s → rowT σ (s.toNat + 2) k = rowB τ s k ∧ colT σ (s.toNat + 2) k = colB τ s k := fun k a b => ⟨row_al e ⟨a, b⟩, col_al e ⟨a, b⟩⟩
    have eL : L = L' := grS_un (by omega) (fun k a b => ⟨(rowT_bd hT (i := k) ⟨a, by omega⟩).1, (colT_bd hT (i := k) ⟨a, by omega⟩).1⟩) rc a2 b2
    subst eL
    unfold shB' at b3
    exact MM_mx ⟨by omega, by omega⟩ L1 (fun i j a b c d => tg_cg (fun i j a b c d => e.2.2.2 i j a b c d) rc ⟨a, b⟩ ⟨c, d⟩) a3 b3 hI.2.1 (by rw [if_pos rfl, b4])
/-! the answers -/
theorem part_al {k r : Int} (m : MM σ τ) (qA : prS (σ 22 5) (σ 22 4) (kA σ) k r zA) (qB : (zB = τ 13 (8 * k + r) ∧ 0 ≤ k ∧ k < τ 0 27 ∧ 0 ≤ r ∧ r < τ 0 28) ∨ (zB = -1 ∧ ¬ (0 ≤ k ∧ k < τ 0 27 ∧ 0 ≤ r ∧ r < τ 0 28))) : zA = zB := by
  obtain ⟨⟨m1, m2, m3, m4⟩, -, -, m5⟩ := m
  unfold prS at qA
  rw [m2, m3] at qA
  rcases qB with ⟨b1, b2⟩ | ⟨b1, b2⟩
  · rw [if_pos b2, (m5 k b2.1 b2.2.1).2 r b2.2.2.1 b2.2.2.2] at qA
    rw [qA, b1]
    rfl
  · rw [if_neg b2] at qA
    rw [qA, b1]
theorem whole1 (hK : iK τ) (h : τ 0 27 ≠ 0) : 1 ≤ τ 0 29 := by
  obtain ⟨h1, -⟩ := id hK
  have := wt_le hK (k := 0) (by omega) (by omega)
  omega
theorem weight_al {k w : Int} (hK : iK τ) (m : MM σ τ) (qA : (1 ≤ σ 22 6 → wtS (σ 22 5) (σ 22 6) (wA σ) k w zA) ∧ (σ 22 5 = 0 → zA = -1)) (qB : wtS (τ 0 27) (τ 0 29) (wB τ) k w zB) : zA = zB := by
  obtain ⟨⟨m1, m2, m3, m4⟩, -, -, m5⟩ := m
  rw [m3, m4] at qA
  have b0 := hK.1
  unfold wtS at qA qB
  by_cases q : τ 0 27 = 0
  · rw [if_neg (by omega)] at qB
    rw [qA.2 q, qB]
  · have a := qA.1 (whole1 hK q)
    by_cases y : (0 ≤ k ∧ k < τ 0 27) ∧ 0 ≤ w ∧ w ≤ 2
    · rw [if_pos y, (m5 k y.1.1 y.1.2).1] at a
      rw [if_pos y] at qB
      rw [a, qB]
    · rw [if_neg y] at a qB
      rw [a, qB]
theorem draw_al {r : Int} (hK : iK τ) (m : MM σ τ) (qA : drS (σ 22 5) (wA σ) r zA) (qB : drS (τ 0 27) (wB τ) r zB) : zA = zB := by
  obtain ⟨⟨m1, m2, m3, m4⟩, -, -, m5⟩ := m
  rw [m3] at qA
  exact drS_un (fun q a b => by rw [(m5 q a b).1]; exact wB_nn hK q a b) (fun q a b => (m5 q a b).1) qA qB
theorem joint_al {i j k l w : Int} (hK : iK τ) (m : MM σ τ) (qA : (1 ≤ σ 22 6 → jtS (σ 22 5) (σ 22 4) (σ 22 6) (wA σ) (kA σ) i j k l w zA) ∧ (σ 22 4 = 0 → zA = -1)) (qB : (τ 0 27 ≠ 0 → jtS (τ 0 27) (τ 0 28) (τ 0 29) (wB τ) (kB τ) i j k l w zB) ∧ (τ 0 27 = 0 → zB = -1)) : zA = zB := by
  obtain ⟨⟨m1, m2, m3, m4⟩, -, m0, m5⟩ := m
  rw [m2, m3, m4] at qA
  by_cases q : τ 0 27 = 0
  · rw [qA.2 (m0 q), qB.2 q]
  · have a := qA.1 (whole1 hK q)
    have b := qB.1 q
    unfold jtS at a b
    by_cases y : okJ4 (τ 0 28) i j k l w
    · rw [if_pos y, twS_cg (fun q x y => m5 q x y) y.1 y.2.2.1] at a
      rw [if_pos y] at b
      rw [a, b]
    · rw [if_neg y] at a b
      rw [a, b]
theorem pc_b : ∀ s : Fin 256, pc (s.val : Int) = sm (fun c => if bt (s.val : Int) c = true then 1 else 0) 8 := by decide +kernel
theorem pc_sm {s : Int} (h : 0 ≤ s ∧ s < 256) : pc s = sm (fun c => if bt s c = true then 1 else 0) 8 := fin1 (P := fun s => pc s = sm (fun c => if bt s c = true then 1 else 0) 8) pc_b h.1 h.2
theorem tw_pos {N r c : Int} {wt : Int → Int} {col : Int → Int → Int} (hw : ∀ q, 0 ≤ q → q < N → 1 ≤ wt q) : 0 < twS N wt col r c r c ↔ ∃ p, 0 ≤ p ∧ p < N ∧ col p r = c := by
  unfold twS
  constructor
  · intro h
    obtain ⟨p, a, b, d⟩ := sm_ex (f := fun p => if col p r = c ∧ col p r = c then wt p else 0) (n := N.toNat) (by omega)
    refine ⟨p, a, by omega, ?_⟩
    by_cases q : col p r = c
    · exact q
    · exact absurd (if_neg (fun y => q y.1)) d
  · rintro ⟨p, a, b, d⟩
    have x := sm_le (f := fun p => if col p r = c ∧ col p r = c then wt p else 0) (n := N.toNat) (fun q u v => by (try dsimp only); have := hw q u (by omega); split <;> omega) p a (by omega)
    try dsimp only at x
    rw [if_pos ⟨d, d⟩] at x
    have := hw p a b
    omega
theorem cu_al {N n r s : Int} {wt : Int → Int} {col col' : Int → Int → Int} (hn : 0 ≤ n ∧ n ≤ 8) (hr : 0 ≤ r ∧ r < n) (hw : ∀ q, 0 ≤ q → q < N → 1 ≤ wt q) (hc : ∀ q, 0 ≤ q → q < N → col q r = col' q r ∧ 0 ≤ col' q r ∧ col' q r < n) (h : seS N col r s) : pc s = cuS (fun c => twS N wt col' r c r c) n := by
  rw [pc_sm h.1]
  have bb : ∀ c : Int, 0 ≤ c → c < 8 → (bt s c = true ↔ ∃ p, 0 ≤ p ∧ p < N ∧ col' p r = c) := fun c a b => by
    rw [h.2 c a b]
    constructor
    · rintro ⟨p, x, y, z⟩; exact ⟨p, x, y, by rw [← (hc p x y).1]; exact z⟩
    · rintro ⟨p, x, y, z⟩; exact ⟨p, x, y, by rw [(hc p x y).1]; exact z⟩
  have e8 : (8 : Nat) = n.toNat + (8 - n.toNat) := by omega
  have x := sm_add (fun c => if bt s c = true then (1 : Int) else 0) n.toNat (8 - n.toNat)
  rw [← e8] at x
  have z := sm_bd (f := fun k => if bt s (((n.toNat : Nat) : Int) + k) = true then (1 : Int) else 0) (B := 0) (by decide) (n := 8 - n.toNat) (fun k a b => by
    try dsimp only
    rw [if_neg]
    · omega
    · intro q
      obtain ⟨p, u, v, w⟩ := (bb _ (by omega) (by omega)).mp q
      have := (hc p u v).2.2
      omega)
  have y : sm (fun c => if bt s c = true then (1 : Int) else 0) n.toNat = cuS (fun c => twS N wt col' r c r c) n := by
    unfold cuS
    refine sm_cg (fun c a b => ?_)
    have t := (bb c a (by omega)).trans (tw_pos (c := c) hw).symm
    by_cases q : bt s c = true
    · rw [if_pos q, if_pos (t.mp q)]
    · rw [if_neg q, if_neg (fun w => q (t.mpr w))]
  omega
theorem most_al {r w : Int} (hK : iK τ) (m : MM σ τ) (qA : mtS (σ 22 5) (σ 22 4) (wA σ) (kA σ) r w zA) (qB : moS (τ 0 27) (τ 0 28) (wB τ) (kB τ) r w zB) : zA = zB := by
  obtain ⟨⟨m1, m2, m3, m4⟩, -, m0, m5⟩ := m
  rw [m2, m3] at qA
  obtain ⟨-, -, k3, k4, -, -, kw, kc, -⟩ := hK
  rcases qA with ⟨a1, a2⟩ | ⟨a1, a2⟩ <;> rcases qB with ⟨b1, b2⟩ | ⟨b1, b2⟩
  · rw [a1, b1]
  · exact absurd b1 a2
  · exfalso
    have : τ 0 27 ≠ 0 := fun q => by have := m0 q; omega
    exact b2 ⟨⟨this, a1.1⟩, a1.2⟩
  · have tw : ∀ c, twS (τ 0 27) (wA σ) (kA σ) r c r c = twS (τ 0 27) (wB τ) (kB τ) r c r c := fun c => twS_cg (fun q x y => m5 q x y) a1.1 a1.1
    rcases a2 with ⟨w2, s, a3, a4⟩ | ⟨w2, b, a3, a4⟩ <;> rcases b2 with ⟨v2, b3⟩ | ⟨v2, b', b3, b4⟩
    · rw [a4, b3]
      exact cu_al ⟨k3, k4⟩ a1.1 (fun q x y => kw.1 q x y) (fun q x y => ⟨(m5 q x y).2 r a1.1.1 a1.1.2, kc q r x y a1.1.1 a1.1.2⟩) a3
    · exact absurd w2 v2
    · exact absurd v2 w2
    · have e := mxS_un (fun j _ _ => tw j) a3 b3
      subst e
      rw [a4, b4, tw]
theorem works_al {j t : Int} (hK : iK τ) (m : MM σ τ) (qA : wkS (σ 22 5) (σ 22 3) (wA σ) (kA σ) (σ 22 2 = 2 ∧ 0 ≤ j ∧ j < σ 22 3) j t zA) (qB : wkS (τ 0 27) (τ 0 31) (wB τ) (kB τ) (τ 0 30 = 2 ∧ 0 ≤ j ∧ j < τ 0 31) j t zB) : zA = zB := by
  have m' := m
  obtain ⟨⟨m1, m2, m3, m4⟩, mn, m0, m5⟩ := m
  rw [m1, m3] at qA
  rcases qA with ⟨a1, a2⟩ | ⟨⟨a0, a1⟩, p, a2, a3⟩ <;> rcases qB with ⟨b1, b2⟩ | ⟨⟨b0, b1⟩, p', b2, b3⟩
  · rw [a1, b1]
  · exfalso
    rw [b0, if_pos rfl] at mn
    exact a2 ⟨b0, by omega⟩
  · exfalso
    rw [a0, if_pos rfl] at mn
    exact b2 ⟨a0, by omega⟩
  · rw [b0, if_pos rfl] at mn
    have k2 := hK.two b0
    have e := draw_al hK m' (zA := p) (zB := p') (by rw [m3]; exact a2) b2
    subst e
    rcases a3 with ⟨a3, a4⟩ | ⟨a3, a4⟩ <;> rcases b3 with ⟨b3, b4⟩ | ⟨b3, b4⟩
    · rw [a4, b4]
    · omega
    · omega
    · have pl : p < τ 0 27 := by
        rcases b2 with ⟨q, -⟩ | ⟨q, -⟩ <;> omega
      rw [a4, b4, (m5 p a3 pl).2 j (by omega) (by omega), mn]
end G5
theorem paired_al {σ τ : eS} {x0 x1 x2 zA zB : Int} (hI : iB1 τ) (h : TT σ τ) (qA : (¬ okPr (tabA σ x0) (σ (x0.toNat + 2) 1) x1 x2 ∧ zA = -1) ∨ (okPr (tabA σ x0) (σ (x0.toNat + 2) 1) x1 x2 ∧ paS (σ (x0.toNat + 2) 1) (fun i j => x1 ≤ cT σ (x0.toNat + 2) i j) x2 zA)) (qB : (¬ okPr (tabB τ x0) (τ 1 x0) x1 x2 ∧ zB = -1) ∨ (okPr (tabB τ x0) (τ 1 x0) x1 x2 ∧ paS (τ 1 x0) (fun i j => x1 ≤ cB τ x0 i j) x2 zB)) : zA = zB := by
  have ta := tab_al hI h x0
  have ok : okPr (tabA σ x0) (σ (x0.toNat + 2) 1) x1 x2 ↔ okPr (tabB τ x0) (τ 1 x0) x1 x2 := by
    unfold okPr
    rw [ta]
    constructor
    · rintro ⟨t, w⟩
      rw [(h x0 t.1 t.2.1).1] at w
      exact ⟨t, w⟩
    · rintro ⟨t, w⟩
      rw [(h x0 t.1 t.2.1).1]
      exact ⟨t, w⟩
  rcases qA with ⟨a1, a2⟩ | ⟨a1, a2⟩ <;> rcases qB with ⟨b1, b2⟩ | ⟨b1, b2⟩
  · rw [a2, b2]
  · exact absurd (ok.mpr b1) a1
  · exact absurd (ok.mp a1) b1
  · have e := h x0 b1.1.1 b1.1.2.1
    have tn := tb_n hI b1.1
    rw [e.1] at a2
    exact paS_un ⟨by omega, tn.2⟩ b1.2.2 (fun i j a b c d => by rw [e.2.2.2 i j a b c d]) a2 b2
/-! what was shown -/
def SS (σ τ : eS) : Prop := ∃ l, bfl (fun k => σ 47 k) (σ 46 1) l ∧ bfl (fun k => τ 23 k) (τ 0 42) l
theorem SS_keep {σ τ σ' τ' : eS} (h : SS σ τ) (a : swS σ σ') (b : swK τ τ') : SS σ' τ' := by
  obtain ⟨l, h1, h2⟩ := h
  have e1 : (fun k => σ' 47 k) = (fun k => σ 47 k) := by funext k; exact a _ _ (by decide) (by decide)
  have e2 : (fun k => τ' 23 k) = (fun k => τ 23 k) := by funext k; exact b.2 k
  refine ⟨l, ?_, ?_⟩
  · rw [e1, a 46 1 (by decide) (by decide)]; exact h1
  · rw [e2, b.1]; exact h2
theorem SS_show {σ τ σ' τ' : eS} {zA zB : Int} (m : MM σ τ) (qA : zA = σ' 46 1 ∧ bfl (fun k => σ' 47 k) (σ' 46 1) (shL (wA σ) (kA σ) (σ 22 4) (σ 22 5).toNat)) (qB : zB = τ' 0 42 ∧ bfl (fun k => τ' 23 k) (τ' 0 42) (shL (wB τ) (kB τ) (τ 0 28) (τ 0 27).toNat)) : SS σ' τ' ∧ zA = zB := by
  obtain ⟨⟨m1, m2, m3, m4⟩, -, -, m5⟩ := m
  obtain ⟨a1, a2⟩ := qA
  obtain ⟨b1, b2⟩ := qB
  rw [m2, m3, shL_cg (fun q x y => m5 q x (by omega))] at a2
  refine ⟨⟨_, a2, b2⟩, ?_⟩
  rw [a1, b1, a2.1, b2.1]
theorem out_al {σ τ : eS} {i zA zB : Int} (h : SS σ τ) (qA : ouS (σ 46 1) (fun k => σ 47 k) i zA) (qB : ouS (τ 0 42) (fun k => τ 23 k) i zB) : zA = zB := by
  obtain ⟨l, ⟨h1, h2⟩, g1, g2⟩ := h
  rcases qA with ⟨a1, a2⟩ | ⟨a1, a2⟩ <;> rcases qB with ⟨b1, b2⟩ | ⟨b1, b2⟩
  · rw [a1, b1]
  · exfalso; omega
  · exfalso; omega
  · have x := h2 i.toNat (by omega)
    have y := g2 i.toNat (by omega)
    rw [x] at y
    have z := Option.some.inj y
    rw [Int.toNat_of_nonneg a1.1] at z
    rw [a2, b2]
    exact z
theorem mixing_al {σ τ : eS} {x0 zA zB : Int} (hI : iB1 τ) (h : TT σ τ) (qA : ((¬ tabA σ x0 ∧ zA = -1) ∨ (tabA σ x0 ∧ mxG (σ (x0.toNat + 2) 1) (cT σ (x0.toNat + 2)) zA))) (qB : ((¬ tabB τ x0 ∧ zB = -1) ∨ (tabB τ x0 ∧ mxG (τ 1 x0) (cB τ x0) zB))) : zA = zB := by
  have ta := tab_al hI h x0
  rcases qA with ⟨a1, a2⟩ | ⟨a1, a2⟩ <;> rcases qB with ⟨b1, b2⟩ | ⟨b1, b2⟩
  · rw [a2, b2]
  · exact absurd (ta.mpr b1) a1
  · exact absurd (ta.mp a1) b1
  · have e := h x0 b1.1 b1.2.1
    rw [e.1] at a2
    exact mxG_un (fun i j a b c d => e.2.2.2 i j a b c d) a2 b2
theorem kin_al {σ τ : eS} {x0 x1 zA zB : Int} (hI : iB1 τ) (h : TT σ τ) (qA : ((¬ okKn (tabA σ x0) (σ (x0.toNat + 2) 1) x1 ∧ zA = -1) ∨ (okKn (tabA σ x0) (σ (x0.toNat + 2) 1) x1 ∧ kiS (σ (x0.toNat + 2) 1) (cT σ (x0.toNat + 2)) x1 zA))) (qB : ((¬ okKn (tabB τ x0) (τ 1 x0) x1 ∧ zB = -1) ∨ (okKn (tabB τ x0) (τ 1 x0) x1 ∧ kiS (τ 1 x0) (cB τ x0) x1 zB))) : zA = zB := by
  have ta := tab_al hI h x0
  have ok : okKn (tabA σ x0) (σ (x0.toNat + 2) 1) x1 ↔ okKn (tabB τ x0) (τ 1 x0) x1 := by
    unfold okKn
    rw [ta]
    constructor
    · rintro ⟨t, w⟩
      rw [(h x0 t.1 t.2.1).1] at w
      exact ⟨t, w⟩
    · rintro ⟨t, w⟩
      rw [(h x0 t.1 t.2.1).1]
      exact ⟨t, w⟩
  rcases qA with ⟨a1, a2⟩ | ⟨a1, a2⟩ <;> rcases qB with ⟨b1, b2⟩ | ⟨b1, b2⟩
  · rw [a2, b2]
  · exact absurd (ok.mpr b1) a1
  · exact absurd (ok.mp a1) b1
  · have e := h x0 b1.1.1 b1.1.2.1
    have tn := tb_n hI b1.1
    rw [e.1] at a2
    exact kiS_un tn.2 (fun i j a b c d => e.2.2.2 i j a b c d) b1.2 a2 b2
end
section
/-! the relation of both sides, call by call -/
/-- few searches were made up to the place i of the script -/
def sr (i : Int) (σ : eS) : Prop := iSe σ ∧ σ 16 3 ≤ 2500 * i
def JJ (i : Int) (σ τ : eS) : Prop := IA σ ∧ IB τ ∧ TP σ τ ∧ TT σ τ ∧ (MM σ τ ∧ SS σ τ) ∧ sr i σ
theorem JJ.iby {i : Int} {σ τ : eS} (h : JJ i σ τ) : IB τ ∧ byt τ := ⟨h.2.1, h.2.2.1.2.2.1⟩
theorem JJ.pe {i : Int} {σ τ : eS} (h : JJ i σ τ) (hi : i ≤ 4096) : IA σ ∧ iSe σ ∧ σ 16 3 + 64 < 2147483647 := ⟨h.1, h.2.2.2.2.2.1, by have := h.2.2.2.2.2.2; omega⟩
theorem sr_s {i : Int} {σ σ' : eS} (hi : i ≤ 4096) (h : sr i σ) (k : mkS 20000 σ σ') : sr (i + 8) σ' := by
  obtain ⟨a, b⟩ := h
  obtain ⟨c, d, e⟩ := k a (by omega)
  exact ⟨c, by omega⟩
/-- the parts and the searches, where a call leaves them -/
theorem ot_s {i : Int} {σ τ σ' τ' : eS} (hi : i ≤ 4096) (h : JJ i σ τ) (a : otS σ σ') (b : otK τ τ') : (MM σ' τ' ∧ SS σ' τ') ∧ sr (i + 8) σ' := ⟨⟨MM_keep h.2.2.2.2.1.1 a.1 b.1, SS_keep h.2.2.2.2.1.2 a.2.1 b.2⟩, sr_s hi h.2.2.2.2.2 a.2.2⟩
theorem JJ.mn {i : Int} {σ τ : eS} (h : JJ i σ τ) : JJ (i + 8) σ τ := ⟨h.1, h.2.1, h.2.2.1, h.2.2.2.1, h.2.2.2.2.1, h.2.2.2.2.2.1, by have := h.2.2.2.2.2.2; omega⟩
section J9
variable {i : Int} {σ τ σ' τ' : eS} {zA zB : Int}
theorem j_keep (hi : i ≤ 4096) (h : JJ i σ τ) (a : QA σ σ') (b : QB τ τ') : JJ (i + 8) σ' τ' :=
  have o := ot_s hi h a.2.2.2 b.2.2.2
  ⟨a.1, b.1, TP_keep h.2.2.1 a.2.1 b.2.1, TT_keep h.2.2.2.1 a.2.2.1 b.2.2.1, o.1, o.2⟩
theorem j_keepK (hi : i ≤ 4096) (h : JJ i σ τ) (a : QAk σ σ') (b : QB τ τ') : JJ (i + 8) σ' τ' :=
  have o := ot_s hi h a.2.2.2 b.2.2.2
  ⟨a.1, b.1, TP_keep h.2.2.1 a.2.1 b.2.1, TT_keepW h.2.2.2.1 a.2.2.1.v b.2.2.1, o.1, o.2⟩
theorem j_keepR (hi : i ≤ 4096) (h : JJ i σ τ) (a : QAr σ σ') (b : QB τ τ') : JJ (i + 8) σ' τ' :=
  have o := ot_s hi h a.2.2.2 b.2.2.2
  ⟨a.1, b.1, TP_keep h.2.2.1 a.2.1 b.2.1, TT_keepW h.2.2.2.1 a.2.2.1.v b.2.2.1, o.1, o.2⟩
theorem j_show (hi : i ≤ 4096) (h : JJ i σ τ) (qA : QAw σ σ' ∧ zA = σ' 46 1 ∧ bfl (fun k => σ' 47 k) (σ' 46 1) (shL (wA σ) (kA σ) (σ 22 4) (σ 22 5).toNat)) (qB : QBw τ τ' ∧ zB = τ' 0 42 ∧ bfl (fun k => τ' 23 k) (τ' 0 42) (shL (wB τ) (kB τ) (τ 0 28) (τ 0 27).toNat)) : JJ (i + 8) σ' τ' ∧ zA = zB :=
  have t := SS_show h.2.2.2.2.1.1 qA.2 qB.2
  have a := qA.1
  have b := qB.1
  ⟨⟨a.1, b.1, TP_keep h.2.2.1 a.2.1 b.2.1, TT_keep h.2.2.2.1 a.2.2.1 b.2.2.1, ⟨MM_keep h.2.2.2.2.1.1 a.2.2.2.1 b.2.2.2, t.1⟩, sr_s hi h.2.2.2.2.2 a.2.2.2.2⟩, t.2⟩
theorem j_out {x0 : Int} (hi : i ≤ 4096) (h : JJ i σ τ) (qA : QA σ σ' ∧ ouS (σ 46 1) (fun k => σ 47 k) x0 zA) (qB : QB τ τ' ∧ ouS (τ 0 42) (fun k => τ 23 k) x0 zB) : JJ (i + 8) σ' τ' ∧ zA = zB := ⟨j_keep hi h qA.1 qB.1, out_al h.2.2.2.2.1.2 qA.2 qB.2⟩
theorem j_feed {a b c d e : Int} (hi : i ≤ 4096) (h : JJ i σ τ) (qA : IA σ' ∧ ((σ 10 3 + 20 ≤ 600 ∧ fdA σ (σ 10 3) a b c d e σ' ∧ zA = σ 10 3 + 20) ∨ (600 < σ 10 3 + 20 ∧ σ' = σ ∧ zA = -1))) (qB : IB τ' ∧ ((τ 0 6 + 20 ≤ 600 ∧ τ' = fd τ (τ 0 6) a b c d e ∧ zB = τ 0 6 + 20) ∨ (600 < τ 0 6 + 20 ∧ τ' = τ ∧ zB = -1))) : JJ (i + 8) σ' τ' ∧ zA = zB := by
  have t := TP_feed h.2.2.1 qA.2 qB.2
  have o : otS σ σ' ∧ otK τ τ' := by
    constructor
    · rcases qA.2 with ⟨-, q, -⟩ | ⟨-, q, -⟩
      · exact otS_fr q.1 (fun c k w => by simp only [rgG]; omega)
      · rw [q]; exact otS_rf _
    · rcases qB.2 with ⟨-, q, -⟩ | ⟨-, q, -⟩
      · rw [q]; exact ⟨fun c k w => fd_o _ _ _ _ _ _ _ _ _ (by omega) (by omega), fd_o _ _ _ _ _ _ _ _ _ (by omega) (by omega), fun k => fd_o _ _ _ _ _ _ _ _ _ (by omega) (by omega)⟩
      · rw [q]; exact otK_rf _
  refine ⟨⟨qA.1, qB.1, t.1, TT_keep h.2.2.2.1 ?_ ?_, (ot_s hi h o.1 o.2).1, (ot_s hi h o.1 o.2).2⟩, t.2⟩
  · rcases qA.2 with ⟨-, q, -⟩ | ⟨-, q, -⟩
    · exact fun c k x y z => q.1 c k (by simp only [rgG]; omega)
    · rw [q]; exact tbS_rf _
  · rcases qB.2 with ⟨-, q, -⟩ | ⟨-, q, -⟩
    · rw [q]; exact fun k => ⟨fd_o _ _ _ _ _ _ _ _ _ (by omega) (by omega), fd_o _ _ _ _ _ _ _ _ _ (by omega) (by omega), fd_o _ _ _ _ _ _ _ _ _ (by omega) (by omega)⟩
    · rw [q]; exact tbK_rf _
theorem j_end {n : Int} (hi : i ≤ 4096) (h : JJ i σ τ) (qA : IA σ' ∧ ((0 ≤ n ∧ n ≤ σ 10 3 ∧ σ' = up σ 10 3 n ∧ zA = 1) ∨ (¬ (0 ≤ n ∧ n ≤ σ 10 3) ∧ σ' = σ ∧ zA = 0))) (qB : IB τ' ∧ ((0 ≤ n ∧ n ≤ τ 0 6 ∧ τ' = up τ 0 6 n ∧ zB = 1) ∨ (¬ (0 ≤ n ∧ n ≤ τ 0 6) ∧ τ' = τ ∧ zB = 0))) : JJ (i + 8) σ' τ' ∧ zA = zB := by
  have t := TP_end h.2.2.1 qA.2 qB.2
  have o : otS σ σ' ∧ otK τ τ' := by
    constructor
    · rcases qA.2 with ⟨-, -, q, -⟩ | ⟨-, q, -⟩
      · rw [q]; exact otS_fr (P := fun c k => c = 10 ∧ k = 3) (fr_up fr.rf ⟨rfl, rfl⟩) (fun c k w => by omega)
      · rw [q]; exact otS_rf _
    · rcases qB.2 with ⟨-, -, q, -⟩ | ⟨-, q, -⟩
      · rw [q]; exact ⟨fun c k w => by rw [up_if, if_neg (by omega)], up_nk _ _ _ _ (by decide), fun k => up_ne _ _ _ _ (by decide)⟩
      · rw [q]; exact otK_rf _
  refine ⟨⟨qA.1, qB.1, t.1, TT_keep h.2.2.2.1 ?_ ?_, (ot_s hi h o.1 o.2).1, (ot_s hi h o.1 o.2).2⟩, t.2⟩
  · rcases qA.2 with ⟨-, -, q, -⟩ | ⟨-, q, -⟩
    · rw [q]; exact fun c k x y z => up_ne _ _ _ _ (by omega)
    · rw [q]; exact tbS_rf _
  · rcases qB.2 with ⟨-, -, q, -⟩ | ⟨-, q, -⟩
    · rw [q]; exact fun k => ⟨up_ne _ _ _ _ (by decide), up_ne _ _ _ _ (by decide), up_ne _ _ _ _ (by decide)⟩
    · rw [q]; exact tbK_rf _
theorem j_table {s : Int} (hi : i ≤ 4096) (h : JJ i σ τ) (qA : IA σ' ∧ (σ' 10 3 = 0 ∧ TA σ s σ' zA) ∧ otS σ σ') (qB : IB τ' ∧ (τ' 0 6 = 0 ∧ TB τ s τ' zB) ∧ otK τ τ') : JJ (i + 8) σ' τ' ∧ zA = zB :=
  have t := TP_table h.2.2.1 qA.2.1 qB.2.1
  have o := ot_s hi h qA.2.2 qB.2.2
  ⟨⟨qA.1, qB.1, t.1, TT_table h.2.1.1 qA.1 h.2.2.1 h.2.2.2.1 qA.2.1 qB.2.1, o.1, o.2⟩, t.2⟩
theorem j_fault {w : Int} (hi : i ≤ 4096) (h : JJ i σ τ) (qA : QA σ σ' ∧ zA = if w = 0 then σ 10 4 else if w = 1 then σ 10 5 else -1) (qB : QB τ τ' ∧ zB = if w = 0 then τ 0 7 else if w = 1 then τ 0 8 else -1) : JJ (i + 8) σ' τ' ∧ zA = zB :=
  ⟨j_keep hi h qA.1 qB.1, by rw [qA.2, qB.2, h.2.2.1.2.2.2.1, h.2.2.1.2.2.2.2]⟩
theorem j_mix {x0 x1 x2 x3 x4 x5 x6 : Int} (hi : i ≤ 4096) (h : JJ i σ τ) (qA : QA0 σ σ' ∧ XmA σ x0 x1 x2 x3 x4 x5 x6 σ' zA) (qB : QB0 τ τ' ∧ XmB τ x0 x1 x2 x3 x4 x5 x6 τ' zB) : JJ (i + 8) σ' τ' ∧ zA = zB := 
  have t := TT_mix h.2.1.1 h.2.2.2.1 qA.2 qB.2
  have o := ot_s hi h qA.1.2.2 qB.1.2.2
  ⟨⟨qA.1.1, qB.1.1, TP_keep h.2.2.1 qA.1.2.1 qB.1.2.1, t.1, o.1, o.2⟩, t.2⟩
theorem j_times {x0 x1 x2 : Int} (hi : i ≤ 4096) (h : JJ i σ τ) (qA : QA0 σ σ' ∧ XtA σ x0 x1 x2 σ' zA) (qB : QB0 τ τ' ∧ XtB τ x0 x1 x2 τ' zB) : JJ (i + 8) σ' τ' ∧ zA = zB := 
  have t := TT_times h.2.1.1 h.2.2.2.1 qA.2 qB.2
  have o := ot_s hi h qA.1.2.2 qB.1.2.2
  ⟨⟨qA.1.1, qB.1.1, TP_keep h.2.2.1 qA.1.2.1 qB.1.2.1, t.1, o.1, o.2⟩, t.2⟩
theorem j_turn {x0 x1 x2 x3 : Int} (hi : i ≤ 4096) (h : JJ i σ τ) (qA : QA0 σ σ' ∧ XuA σ x0 x1 x2 x3 σ' zA) (qB : QB0 τ τ' ∧ XuB τ x0 x1 x2 x3 τ' zB) : JJ (i + 8) σ' τ' ∧ zA = zB := 
  have t := TT_turn h.2.1.1 h.2.2.2.1 qA.2 qB.2
  have o := ot_s hi h qA.1.2.2 qB.1.2.2
  ⟨⟨qA.1.1, qB.1.1, TP_keep h.2.2.1 qA.1.2.1 qB.1.2.1, t.1, o.1, o.2⟩, t.2⟩
theorem j_cell {x0 x1 x2 : Int} (hi : i ≤ 4096) (h : JJ i σ τ) (qA : QA σ σ' ∧ ((celA σ x0 x1 x2 ∧ zA = cT σ (x0.toNat + 2) x1 x2) ∨ (¬ celA σ x0 x1 x2 ∧ zA = -1))) (qB : QB τ τ' ∧ ((celB τ x0 x1 x2 ∧ zB = cB τ x0 x1 x2) ∨ (¬ celB τ x0 x1 x2 ∧ zB = -1))) : JJ (i + 8) σ' τ' ∧ zA = zB := ⟨j_keep hi h qA.1 qB.1, cell_al h.2.1.1 h.2.2.2.1 qA.2 qB.2⟩
theorem j_uneven {x0 : Int} (hi : i ≤ 4096) (h : JJ i σ τ) (qA : QA σ σ' ∧ ((¬ tabA σ x0 ∧ zA = -1) ∨ (tabA σ x0 ∧ unev (rowT σ (x0.toNat + 2)) (colT σ (x0.toNat + 2)) (σ (x0.toNat + 2) 1) zA))) (qB : QB τ τ' ∧ ((¬ tabB τ x0 ∧ zB = -1) ∨ (tabB τ x0 ∧ unev (rowB τ x0) (colB τ x0) (τ 1 x0) zB))) : JJ (i + 8) σ' τ' ∧ zA = zB := ⟨j_keep hi h qA.1 qB.1, uneven_al h.2.1.1 h.2.2.2.1 qA.2 qB.2⟩
theorem j_lack {x0 x1 x2 : Int} (hi : i ≤ 4096) (h : JJ i σ τ) (qA : QA σ σ' ∧ ((¬ okL (tabA σ x0) x1 x2 ∧ zA = -1) ∨ (okL (tabA σ x0) x1 x2 ∧ zA = lackV (σ (x0.toNat + 2) 1) (fun i j => x1 ≤ cT σ (x0.toNat + 2) i j) x2))) (qB : QB τ τ' ∧ ((¬ okL (tabB τ x0) x1 x2 ∧ zB = -1) ∨ (okL (tabB τ x0) x1 x2 ∧ zB = lackV (τ 1 x0) (fun i j => x1 ≤ cB τ x0 i j) x2))) : JJ (i + 8) σ' τ' ∧ zA = zB := ⟨j_keep hi h qA.1 qB.1, lack_al h.2.1.1 h.2.2.2.1 qA.2 qB.2⟩
theorem j_permanent {x0 : Int} (hi : i ≤ 4096) (h : JJ i σ τ) (qA : QA σ σ' ∧ ((¬ tabA σ x0 ∧ zA = -1) ∨ (tabA σ x0 ∧ pmA (σ (x0.toNat + 2) 1) (cT σ (x0.toNat + 2)) zA))) (qB : QB τ τ' ∧ ((¬ tabB τ x0 ∧ zB = -1) ∨ (tabB τ x0 ∧ pmA (τ 1 x0) (cB τ x0) zB))) : JJ (i + 8) σ' τ' ∧ zA = zB := ⟨j_keep hi h qA.1 qB.1, perm_al h.2.1.1 h.2.2.2.1 qA.2 qB.2⟩
theorem j_ways {x0 x1 : Int} (hi : i ≤ 4096) (h : JJ i σ τ) (qA : QA σ σ' ∧ ((¬ okW (tabA σ x0) x1 ∧ zA = -1) ∨ (okW (tabA σ x0) x1 ∧ zA = wyV (σ (x0.toNat + 2) 1) (fun i j => x1 ≤ cT σ (x0.toNat + 2) i j)))) (qB : QB τ τ' ∧ ((¬ okW (tabB τ x0) x1 ∧ zB = -1) ∨ (okW (tabB τ x0) x1 ∧ zB = wyV (τ 1 x0) (fun i j => x1 ≤ cB τ x0 i j)))) : JJ (i + 8) σ' τ' ∧ zA = zB := ⟨j_keep hi h qA.1 qB.1, ways_al h.2.1.1 h.2.2.2.1 qA.2 qB.2⟩
theorem j_widest {x0 : Int} (hi : i ≤ 4096) (h : JJ i σ τ) (qA : QA σ σ' ∧ ((¬ tabA σ x0 ∧ zA = -1) ∨ (tabA σ x0 ∧ wdA (σ (x0.toNat + 2) 1) (fun i j => 0 ≤ cT σ (x0.toNat + 2) i j) (cT σ (x0.toNat + 2)) zA))) (qB : QB τ τ' ∧ ((¬ tabB τ x0 ∧ zB = -1) ∨ (tabB τ x0 ∧ wdA (τ 1 x0) (fun i j => 0 ≤ wk (wo τ x0 (τ 1 x0) (τ 1 x0 * τ 1 x0)) i j) (wk (wo τ x0 (τ 1 x0) (τ 1 x0 * τ 1 x0))) zB))) : JJ (i + 8) σ' τ' ∧ zA = zB := ⟨j_keep hi h qA.1 qB.1, widest_al h.2.1.1 h.2.2.2.1 qA.2 qB.2⟩
theorem j_best {x0 x1 : Int} (hi : i ≤ 4096) (h : JJ i σ τ) (qA : QA σ σ' ∧ ((¬ okBs (tabA σ x0) (σ (x0.toNat + 2) 1) x1 ∧ zA = -1) ∨ (okBs (tabA σ x0) (σ (x0.toNat + 2) 1) x1 ∧ bsA (σ (x0.toNat + 2) 1) (fun i j => 0 ≤ cT σ (x0.toNat + 2) i j) (cT σ (x0.toNat + 2)) x1 zA))) (qB : QB τ τ' ∧ ((¬ okBs (tabB τ x0) (τ 1 x0) x1 ∧ zB = -1) ∨ (okBs (tabB τ x0) (τ 1 x0) x1 ∧ bsA (τ 1 x0) (fun i j => 0 ≤ wk (wo τ x0 (τ 1 x0) (τ 1 x0 * τ 1 x0)) i j) (wk (wo τ x0 (τ 1 x0) (τ 1 x0 * τ 1 x0))) x1 zB))) : JJ (i + 8) σ' τ' ∧ zA = zB := ⟨j_keep hi h qA.1 qB.1, best_al h.2.1.1 h.2.2.2.1 qA.2 qB.2⟩
theorem j_weight {x0 x1 : Int} (hi : i ≤ 4096) (h : JJ i σ τ) (qA : QA σ σ' ∧ ((1 ≤ σ 22 6 → wtS (σ 22 5) (σ 22 6) (wA σ) x0 x1 zA) ∧ (σ 22 5 = 0 → zA = -1))) (qB : QB τ τ' ∧ wtS (τ 0 27) (τ 0 29) (wB τ) x0 x1 zB) : JJ (i + 8) σ' τ' ∧ zA = zB := ⟨j_keep hi h qA.1 qB.1, weight_al h.2.1.2.1 h.2.2.2.2.1.1 qA.2 qB.2⟩
theorem j_draw {x0 : Int} (hi : i ≤ 4096) (h : JJ i σ τ) (qA : QA σ σ' ∧ drS (σ 22 5) (wA σ) x0 zA) (qB : QB τ τ' ∧ drS (τ 0 27) (wB τ) x0 zB) : JJ (i + 8) σ' τ' ∧ zA = zB := ⟨j_keep hi h qA.1 qB.1, draw_al h.2.1.2.1 h.2.2.2.2.1.1 qA.2 qB.2⟩
theorem j_joint {x0 x1 x2 x3 x4 : Int} (hi : i ≤ 4096) (h : JJ i σ τ) (qA : QA σ σ' ∧ ((1 ≤ σ 22 6 → jtS (σ 22 5) (σ 22 4) (σ 22 6) (wA σ) (kA σ) x0 x1 x2 x3 x4 zA) ∧ (σ 22 4 = 0 → zA = -1))) (qB : QB τ τ' ∧ ((τ 0 27 ≠ 0 → jtS (τ 0 27) (τ 0 28) (τ 0 29) (wB τ) (kB τ) x0 x1 x2 x3 x4 zB) ∧ (τ 0 27 = 0 → zB = -1))) : JJ (i + 8) σ' τ' ∧ zA = zB := ⟨j_keep hi h qA.1 qB.1, joint_al h.2.1.2.1 h.2.2.2.2.1.1 qA.2 qB.2⟩
theorem j_most {x0 x1 : Int} (hi : i ≤ 4096) (h : JJ i σ τ) (qA : QA σ σ' ∧ mtS (σ 22 5) (σ 22 4) (wA σ) (kA σ) x0 x1 zA) (qB : QB τ τ' ∧ moS (τ 0 27) (τ 0 28) (wB τ) (kB τ) x0 x1 zB) : JJ (i + 8) σ' τ' ∧ zA = zB := ⟨j_keep hi h qA.1 qB.1, most_al h.2.1.2.1 h.2.2.2.2.1.1 qA.2 qB.2⟩
theorem j_works {x0 x1 : Int} (hi : i ≤ 4096) (h : JJ i σ τ) (qA : QA σ σ' ∧ wkS (σ 22 5) (σ 22 3) (wA σ) (kA σ) (σ 22 2 = 2 ∧ 0 ≤ x0 ∧ x0 < σ 22 3) x0 x1 zA) (qB : QB τ τ' ∧ wkS (τ 0 27) (τ 0 31) (wB τ) (kB τ) (τ 0 30 = 2 ∧ 0 ≤ x0 ∧ x0 < τ 0 31) x0 x1 zB) : JJ (i + 8) σ' τ' ∧ zA = zB := ⟨j_keep hi h qA.1 qB.1, works_al h.2.1.2.1 h.2.2.2.2.1.1 qA.2 qB.2⟩
theorem j_kept {x0 : Int} (hi : i ≤ 4096) (h : JJ i σ τ) (qA : QA σ σ' ∧ zA = if x0 = 0 then σ 22 2 else if x0 = 1 then σ 22 5 else if x0 = 2 then σ 22 6 else if x0 = 3 then σ 22 3 else if x0 = 4 then σ 10 3 else -1) (qB : QB τ τ' ∧ zB = if x0 = 0 then τ 0 30 else if x0 = 1 then τ 0 27 else if x0 = 2 then τ 0 29 else if x0 = 3 then (if τ 0 30 = 2 then τ 0 31 else τ 0 28) else if x0 = 4 then τ 0 6 else -1) : JJ (i + 8) σ' τ' ∧ zA = zB := by
  obtain ⟨⟨m1, m2, m3, m4⟩, mn, -, -⟩ := h.2.2.2.2.1.1
  have t6 := h.2.2.1.1
  refine ⟨j_keep hi h qA.1 qB.1, ?_⟩
  rw [qA.2, qB.2, m1, m3, m4, mn, t6]
theorem j_part {x0 x1 : Int} (hi : i ≤ 4096) (h : JJ i σ τ) (qA : QA σ σ' ∧ prS (σ 22 5) (σ 22 4) (kA σ) x0 x1 zA) (qB : QB τ τ' ∧ ((zB = τ 13 (8 * x0 + x1) ∧ 0 ≤ x0 ∧ x0 < τ 0 27 ∧ 0 ≤ x1 ∧ x1 < τ 0 28) ∨ (zB = -1 ∧ ¬ (0 ≤ x0 ∧ x0 < τ 0 27 ∧ 0 ≤ x1 ∧ x1 < τ 0 28)))) : JJ (i + 8) σ' τ' ∧ zA = zB := ⟨j_keep hi h qA.1 qB.1, part_al h.2.2.2.2.1.1 qA.2 qB.2⟩
theorem mx_JJ {kind n rows m r z : Int} {W : Int → Int → Int} (hi : i ≤ 4096) (h : JJ i σ τ) (q : mpA σ σ' kind n rows m r z W) : IA σ' ∧ tpS σ σ' ∧ tbS σ σ' ∧ swS σ σ' ∧ sr (i + 8) σ' := by
  obtain ⟨f, c, ⟨s1, s2, s3⟩, m, -, -⟩ := q
  obtain ⟨hA, -, -, -, -, hs1, hs2⟩ := h
  have e3 := f 10 3 (by simp [rgPl])
  refine ⟨⟨?_, iTs_cg hA.2.1 (fun c k a b d => f c k (by simp only [rgPl]; omega)), c, m, iSh_cg hA.2.2.2.2.1 (fun k => f _ k (by simp [rgPl])), iSu_cg hA.2.2.2.2.2 (fun k => f _ k (by simp [rgPl]))⟩, ⟨fun k => f _ k (by simp [rgPl]), fun k => f _ k (by simp [rgPl])⟩, fun c k a b d => f c k (by simp only [rgPl]; omega), fun c k a b => f c k (by simp only [rgPl]; omega), s1, by omega⟩
  unfold tL
  rw [e3]
  exact hA.1
theorem j_peel {x0 x1 : Int} (hi : i ≤ 4096) (h : JJ i σ τ) (qA : XpA σ x0 x1 σ' zA) (qB : XpB τ x0 x1 τ' zB) : JJ (i + 8) σ' τ' ∧ zA = zB := by
  obtain ⟨m, e⟩ := MM_peel h.2.1 h.1 h.2.2.2.1 h.2.2.2.2.1.1 qA qB
  have A : IA σ' ∧ tpS σ σ' ∧ tbS σ σ' ∧ swS σ σ' ∧ sr (i + 8) σ' := by
    rcases qA with ⟨-, q, -⟩ | ⟨-, q⟩
    · rw [q]; exact ⟨h.1, (QA_rf h.1).2.1, (QA_rf h.1).2.2.1, (otS_rf _).2.1, sr_s hi h.2.2.2.2.2 (otS_rf _).2.2⟩
    · exact mx_JJ hi h q
  have B : QB1 τ τ' := by
    rcases qB with ⟨-, q, -⟩ | ⟨-, q⟩
    · rw [q]; exact ⟨h.2.1, (QB_rf h.2.1).2.1, (QB_rf h.2.1).2.2.1, swK_rf _⟩
    · exact QB_P h.2.1 q.1
  exact ⟨⟨A.1, B.1, TP_keep h.2.2.1 A.2.1 B.2.1, TT_keep h.2.2.2.1 A.2.2.1 B.2.2.1, ⟨m, SS_keep h.2.2.2.2.1.2 A.2.2.2.1 B.2.2.2⟩, A.2.2.2.2⟩, e⟩
theorem j_shop {x0 x1 : Int} (hi : i ≤ 4096) (h : JJ i σ τ) (qA : XsA σ x0 x1 σ' zA) (qB : XsB τ x0 x1 τ' zB) : JJ (i + 8) σ' τ' ∧ zA = zB := by
  obtain ⟨m, e⟩ := MM_shop h.2.1 h.1 h.2.2.2.1 h.2.2.2.2.1.1 qA qB
  have A : IA σ' ∧ tpS σ σ' ∧ tbS σ σ' ∧ swS σ σ' ∧ sr (i + 8) σ' := by
    rcases qA with ⟨-, q, -⟩ | ⟨-, L, -, q⟩
    · rw [q]; exact ⟨h.1, (QA_rf h.1).2.1, (QA_rf h.1).2.2.1, (otS_rf _).2.1, sr_s hi h.2.2.2.2.2 (otS_rf _).2.2⟩
    · exact mx_JJ hi h q
  have B : QB1 τ τ' := by
    rcases qB with ⟨-, q, -⟩ | ⟨-, L, -, q, -⟩
    · rw [q]; exact ⟨h.2.1, (QB_rf h.2.1).2.1, (QB_rf h.2.1).2.2.1, swK_rf _⟩
    · exact QB_P h.2.1 q.1
  exact ⟨⟨A.1, B.1, TP_keep h.2.2.1 A.2.1 B.2.1, TT_keep h.2.2.2.1 A.2.2.1 B.2.2.1, ⟨m, SS_keep h.2.2.2.2.1.2 A.2.2.2.1 B.2.2.2⟩, A.2.2.2.2⟩, e⟩
theorem j_paired {x0 x1 x2 : Int} (hi : i ≤ 4096) (h : JJ i σ τ) (qA : QA σ σ' ∧ ((¬ okPr (tabA σ x0) (σ (x0.toNat + 2) 1) x1 x2 ∧ zA = -1) ∨ (okPr (tabA σ x0) (σ (x0.toNat + 2) 1) x1 x2 ∧ paS (σ (x0.toNat + 2) 1) (fun i j => x1 ≤ cT σ (x0.toNat + 2) i j) x2 zA))) (qB : QB τ τ' ∧ ((¬ okPr (tabB τ x0) (τ 1 x0) x1 x2 ∧ zB = -1) ∨ (okPr (tabB τ x0) (τ 1 x0) x1 x2 ∧ paS (τ 1 x0) (fun i j => x1 ≤ cB τ x0 i j) x2 zB))) : JJ (i + 8) σ' τ' ∧ zA = zB := ⟨j_keep hi h qA.1 qB.1, paired_al h.2.1.1 h.2.2.2.1 qA.2 qB.2⟩
theorem j_mixing {x0 : Int} (hi : i ≤ 4096) (h : JJ i σ τ) (qA : QA σ σ' ∧ ((¬ tabA σ x0 ∧ zA = -1) ∨ (tabA σ x0 ∧ mxG (σ (x0.toNat + 2) 1) (cT σ (x0.toNat + 2)) zA))) (qB : QB τ τ' ∧ ((¬ tabB τ x0 ∧ zB = -1) ∨ (tabB τ x0 ∧ mxG (τ 1 x0) (cB τ x0) zB))) : JJ (i + 8) σ' τ' ∧ zA = zB := ⟨j_keep hi h qA.1 qB.1, mixing_al h.2.1.1 h.2.2.2.1 qA.2 qB.2⟩
theorem j_kin {x0 x1 : Int} (hi : i ≤ 4096) (h : JJ i σ τ) (qA : QA σ σ' ∧ ((¬ okKn (tabA σ x0) (σ (x0.toNat + 2) 1) x1 ∧ zA = -1) ∨ (okKn (tabA σ x0) (σ (x0.toNat + 2) 1) x1 ∧ kiS (σ (x0.toNat + 2) 1) (cT σ (x0.toNat + 2)) x1 zA))) (qB : QB τ τ' ∧ ((¬ okKn (tabB τ x0) (τ 1 x0) x1 ∧ zB = -1) ∨ (okKn (tabB τ x0) (τ 1 x0) x1 ∧ kiS (τ 1 x0) (cB τ x0) x1 zB))) : JJ (i + 8) σ' τ' ∧ zA = zB := ⟨j_keep hi h qA.1 qB.1, kin_al h.2.1.1 h.2.2.2.1 qA.2 qB.2⟩
end J9
end
section
/-! the relation of the row of sought: what was found and kept is right -/
section G11
variable {σ σ' : eS}
end G11
def JK (i : Int) (σ τ : eS) : Prop := JJ i σ τ ∧ KN σ
theorem JK.mn {i : Int} {σ τ : eS} (h : JK i σ τ) : JK (i + 8) σ τ := ⟨h.1.mn, h.2⟩
theorem JK.so {i : Int} {σ τ : eS} (h : JK i σ τ) (hi : i ≤ 4096) : (IA σ ∧ iSe σ ∧ σ 16 3 + 20000 < 2147483647) ∧ KN σ := ⟨⟨h.1.1, h.1.2.2.2.2.2.1, by have := h.1.2.2.2.2.2.2; omega⟩, h.2⟩
end
section
/-! the relation of the row of rounded: what was rounded and kept is right -/
section G12
variable {σ σ' : eS}
theorem kr_W (h : KRd σ) (e : tbW σ σ') : KRd σ' := fun s s1 s2 q => by
  have f : ∀ k, k ≤ 5 → σ' (s.toNat + 2) k = σ (s.toNat + 2) k := fun k hk => e _ _ (by omega) (by omega) (fun _ => hk)
  have c : cT σ' (s.toNat + 2) = cT σ (s.toNat + 2) := by funext i j; exact e _ _ (by omega) (by omega) (fun _ => by omega)
  rw [f 4 (by omega)] at q
  rw [f 1 (by omega), f 2 (by omega), f 5 (by omega), c]
  exact h s s1 s2 q
theorem kr_S (h : KRd σ) (e : tbS σ σ') : KRd σ' := kr_W h (fun c k a b _ => e c k a b (fun _ => by omega))
theorem kr_X {w : Int} (h : KRd σ) (hw : 0 ≤ w ∧ w < 4) (e : tbX σ σ' (w.toNat + 2)) : KRd σ' := fun s s1 s2 q => by
  by_cases x : s = w
  · subst x; exact absurd e.2.1 q
  · have f : ∀ k, σ' (s.toNat + 2) k = σ (s.toNat + 2) k := fun k => e.1 _ _ (by omega) (by omega) (by omega) (by omega)
    have c : cT σ' (s.toNat + 2) = cT σ (s.toNat + 2) := by funext i j; exact e.1 _ _ (by omega) (by omega) (by omega) (by omega)
    rw [f 4] at q
    rw [f 1, f 2, f 5, c]
    exact h s s1 s2 q
theorem kr_MA {w n b z : Int} {f : Int → Int → Int} (h : KRd σ) (hw : 0 ≤ w ∧ w < 4) (q : MA σ (w.toNat + 2) n b f σ' z) : KRd σ' := by
  obtain ⟨g, -, q⟩ := q
  rcases q with ⟨-, -, q⟩ | ⟨-, -, -, -, -, q⟩
  · exact kr_S h q
  · exact kr_X h hw q
theorem kr_mix {x0 x1 x2 x3 x4 x5 x6 z : Int} (h : KRd σ) (q : XmA σ x0 x1 x2 x3 x4 x5 x6 σ' z) : KRd σ' := by
  rcases q with ⟨-, q, -⟩ | ⟨⟨-, -, lk⟩, q⟩
  · exact kr_S h q
  · rcases q with ⟨-, q, -⟩ | ⟨-, ⟨-, q, -⟩ | ⟨-, q⟩⟩
    · exact kr_S h q
    · exact kr_S h q
    · exact kr_MA h ⟨lk.2.2.2.2.1, lk.2.2.2.2.2.1⟩ q
theorem kr_times {x0 x1 x2 z : Int} (h : KRd σ) (q : XtA σ x0 x1 x2 σ' z) : KRd σ' := by
  rcases q with ⟨-, q, -⟩ | ⟨lk, q⟩
  · exact kr_S h q
  · exact kr_MA h ⟨lk.2.2.2.2.1, lk.2.2.2.2.2.1⟩ q
theorem kr_turn {x0 x1 x2 x3 z : Int} (h : KRd σ) (q : XuA σ x0 x1 x2 x3 σ' z) : KRd σ' := by
  rcases q with ⟨-, q, -⟩ | ⟨lk, q⟩
  · exact kr_S h q
  · exact kr_MA h lk.2.1 q
theorem kr_table {s z : Int} (h : KRd σ) (q : TA σ s σ' z) : KRd σ' := by
  rcases q with ⟨-, -, -, -, q⟩ | ⟨r, -, -, ⟨-, q⟩ | ⟨-, -, q⟩⟩
  · exact kr_S h q
  · exact kr_S h q
  · exact kr_X h r q
theorem kr_feed {a b c d e z : Int} (h : KRd σ) (q : (σ 10 3 + 20 ≤ 600 ∧ fdA σ (σ 10 3) a b c d e σ' ∧ z = σ 10 3 + 20) ∨ (600 < σ 10 3 + 20 ∧ σ' = σ ∧ z = -1)) : KRd σ' := by
  rcases q with ⟨-, q, -⟩ | ⟨-, q, -⟩
  · exact kr_S h (fun c k x y _ => q.1 c k (by simp only [rgG]; omega))
  · rw [q]; exact h
theorem kr_end {n z : Int} (h : KRd σ) (q : (0 ≤ n ∧ n ≤ σ 10 3 ∧ σ' = up σ 10 3 n ∧ z = 1) ∨ (¬ (0 ≤ n ∧ n ≤ σ 10 3) ∧ σ' = σ ∧ z = 0)) : KRd σ' := by
  rcases q with ⟨-, -, q, -⟩ | ⟨-, q, -⟩
  · rw [q]; exact kr_S h (fun c k x y _ => up_ne _ _ _ _ (by omega))
  · rw [q]; exact h
theorem kr_peel {x0 x1 z : Int} (h : KRd σ) (q : XpA σ x0 x1 σ' z) : KRd σ' := by
  rcases q with ⟨-, q, -⟩ | ⟨-, q⟩
  · rw [q]; exact h
  · exact kr_S h (fun c k x y _ => q.1 c k (by simp only [rgPl]; omega))
theorem kr_shop {x0 x1 z : Int} (h : KRd σ) (q : XsA σ x0 x1 σ' z) : KRd σ' := by
  rcases q with ⟨-, q, -⟩ | ⟨-, L, -, q⟩
  · rw [q]; exact h
  · exact kr_S h (fun c k x y _ => q.1 c k (by simp only [rgPl]; omega))
end G12
def JR (i : Int) (σ τ : eS) : Prop := JJ i σ τ ∧ KRd σ
theorem JR.mn {i : Int} {σ τ : eS} (h : JR i σ τ) : JR (i + 8) σ τ := ⟨h.1.mn, h.2⟩
theorem x_Ev_rounded {σ : eS} {x0 x1 x2 : Int} (h : IA σ ∧ KRd σ) : MtI shA M_Ev_rounded [vr 0, vi x0, vi x1, vi x2] σ (fun σ' z => QAr σ σ' ∧ KRd σ' ∧ roS (celA σ x0 x1 x2) (σ (x0.toNat + 2) 1) (σ (x0.toNat + 2) 2) (cT σ (x0.toNat + 2)) x1 x2 z) := t_Ev_rounded h.1 h.2
theorem x_Mo_rounded {σ : eS} {x0 x1 x2 : Int} (h : IB σ) : MtI shB M_Mo_rounded [vr 0, vi x0, vi x1, vi x2] σ (fun σ' z => QB σ σ' ∧ roT (celB σ x0 x1 x2) (σ 1 x0) (σ 2 x0) (cB σ x0) x1 x2 z) := (t_Mo_rounded h.1).weaken (fun σ' v q => by obtain ⟨z, e1, g1, g2⟩ := q; exact ⟨z, e1, QB_cg h g1 (fun c k w => by simp only [rgN]; omega), g2⟩)
theorem frst_le {n b k k' : Int} {R x : Int → Int → Int} (h : frst n b R x k) (hk : k' ≤ k) : frst n b R x k' := fun i j a c d e q y y1 y2 => h i j a c d e (by omega) y y1 y2
theorem fitR_cg {n b : Int} {R R' y : Int → Int → Int} (e : ∀ i j, 0 ≤ i → i < n → 0 ≤ j → j < n → R i j = R' i j) (h : fitR n b R y) : fitR n b R' y := by
  have r : ∀ i, 0 ≤ i → i < n → sm (fun j => R i j) n.toNat = sm (fun j => R' i j) n.toNat := fun i a c => sm_cg (fun j d f => e i j a c d (by omega))
  have l : ∀ j, 0 ≤ j → j < n → sm (fun i => R i j) n.toNat = sm (fun i => R' i j) n.toNat := fun j a c => sm_cg (fun i d f => e i j d (by omega) a c)
  have t : sm (fun i => sm (fun j => R i j) n.toNat) n.toNat = sm (fun i => sm (fun j => R' i j) n.toNat) n.toNat := sm_cg (fun i a c => r i a (by omega))
  refine ⟨fun i j a c d f => ?_, fun i a c => ?_, fun j a c => ?_, ?_⟩
  · rw [← e i j a c d f]; exact h.1 i j a c d f
  · rw [← r i a c]; exact h.2.1 i a c
  · rw [← l j a c]; exact h.2.2.1 j a c
  · rw [← t]; exact h.2.2.2
theorem ro_al {C C' : Prop} {n b i j z z' : Int} {W W' : Int → Int → Int} (hC : C ↔ C') (hr : C → (1 ≤ n ∧ n ≤ 8) ∧ (0 ≤ i ∧ i < n) ∧ 0 ≤ j ∧ j < n) (hW : C → ∀ i j, 0 ≤ i → i < n → 0 ≤ j → j < n → W i j = W' i j) (h : roS C n b W i j z) (h' : roT C' n b W' i j z') : z = z' := by
  rcases h with ⟨a, e⟩ | ⟨a, x, x1, x2, e⟩ <;> rcases h' with ⟨a', e'⟩ | ⟨a', h'⟩
  · omega
  · exact absurd (hC.mpr a') a
  · exact absurd (hC.mp a) a'
  · obtain ⟨hn, hi, hj⟩ := hr a
    have w := hW a
    have m1 : ∀ i j, 0 ≤ i → i < n → 0 ≤ j → j < n → (fun i j => W i j % b) i j = (fun i j => W' i j % b) i j := fun i j p q r s => by (try dsimp only); rw [w i j p q r s]
    have m2 : ∀ i j, 0 ≤ i → i < n → 0 ≤ j → j < n → (fun i j => W' i j % b) i j = (fun i j => W i j % b) i j := fun i j p q r s => (m1 i j p q r s).symm
    have x3 := fitR_cg m1 x1
    have x4 : frst n b (fun i j => W' i j % b) x (n * n) := fun i j p q r s t y y1 y2 => x2 i j p q r s t y (fitR_cg m2 y1) y2
    obtain ⟨x', ⟨y, y1, y2⟩, f', e'⟩ := h' ⟨x, x3⟩
    have ix := ix8 (n := n) (i := i) (j := j) ⟨by omega, hn.2⟩ hi hj
    have u := frst_un hn (frst_le x4 (show n * i + j + 1 ≤ n * n by omega)) f' ⟨x, x3, fun _ _ _ _ _ _ _ => rfl⟩ ⟨y, y1, y2⟩ i j hi.1 hi.2 hj.1 hj.2 (by omega)
    rw [e, e', w i j hi.1 hi.2 hj.1 hj.2, u]
theorem rounded_al {σ τ : eS} {zA zB x0 x1 x2 : Int} (hI : iB1 τ) (h : TT σ τ) (qA : roS (celA σ x0 x1 x2) (σ (x0.toNat + 2) 1) (σ (x0.toNat + 2) 2) (cT σ (x0.toNat + 2)) x1 x2 zA) (qB : roT (celB τ x0 x1 x2) (τ 1 x0) (τ 2 x0) (cB τ x0) x1 x2 zB) : zA = zB := by
  have hl : celA σ x0 x1 x2 ↔ celB τ x0 x1 x2 := by
    unfold celA celB tabB
    constructor
    · rintro ⟨a1, a2, a3, a4, a5, a6⟩
      have := (h x0 a1 a2).1
      exact ⟨⟨a1, a2, by omega⟩, a3, by omega, a5, by omega⟩
    · rintro ⟨⟨a1, a2, a3⟩, a4, a5, a6, a7⟩
      have := (h x0 a1 a2).1
      exact ⟨a1, a2, a4, by omega, a6, by omega⟩
  by_cases c : celB τ x0 x1 x2
  · obtain ⟨⟨s1, s2, s3⟩, c1, c2, c3, c4⟩ := id c
    obtain ⟨e1, e2, e3, e4⟩ := h x0 s1 s2
    have n8 := hI.1 x0 s1 s2
    rw [e1, e2 (by omega)] at qA
    exact ro_al hl (fun _ => ⟨⟨by omega, by omega⟩, ⟨c1, c2⟩, c3, c4⟩) (fun _ i j p q r s => e4 i j p q r s) qA qB
  · rcases qA with ⟨a, e⟩ | ⟨a, -⟩
    · rcases qB with ⟨b, e'⟩ | ⟨b, -⟩
      · omega
      · exact absurd b c
    · exact absurd (hl.mp a) c
theorem j_rounded {i : Int} {σ τ σ' τ' : eS} {zA zB x0 x1 x2 : Int} (hi : i ≤ 4096) (h : JJ i σ τ) (qA : QAr σ σ' ∧ KRd σ' ∧ roS (celA σ x0 x1 x2) (σ (x0.toNat + 2) 1) (σ (x0.toNat + 2) 2) (cT σ (x0.toNat + 2)) x1 x2 zA) (qB : QB τ τ' ∧ roT (celB τ x0 x1 x2) (τ 1 x0) (τ 2 x0) (cB τ x0) x1 x2 zB) : JJ (i + 8) σ' τ' ∧ zA = zB := ⟨j_keepR hi h qA.1 qB.1, rounded_al h.2.1.1 h.2.2.2.1 qA.2.2 qB.2⟩
end
section
/-! THE CLAIM OUT OF ONE WALK OF THE LAW'S BODY. Your part is whole_start (and what it stands on); all else here is the same for every law, but numbers. -/
def R_law : String := "EvenTablesLaw"
def lw_P (b : Addr) (xs : List Int32) (args : Array Value) (s : State) : Prop := args = #[.ref b] ∧ s.IntsAt b xs ∧ xs.length ≤ 4096 ∧ (Jvm.Cond.and given_1 narrow_1).before args s = true
def lw_Q (_ : Array Value) (s : State) (o : Outcome) (t : State) : Prop := o = .returned (some (.int 1)) ∧ Framed s o t [] 600000 7302250
def lw_Z (below : List Frame) (a : Array Value) (s : State) : State → Prop := fun t => ∃ o, t.status = .running ∧ Ended t below o ∧ lw_Q a s o t
/-- the law's own end, with 1 on the stack, nothing written that was there before, its room as the claim has it -/
theorem lw_ret {p : Program} {l : Launch} {e : Env} {s : State} {m : MethodId} {below : List Frame} {meth : Method} {c : Code} {b : Nat} (hx : p.tables.exec = Jvm.exec) (hb : c.code = code) (hr : meth.sig.returnType = ret) (hlocks : meth.locks = false) {pc : Nat} {H : Heap} {ls : Array Slot} (hdg : decode code pc = .ok (.ireturn, 1)) : W p l e room_1 s m #[Value.ref b] below meth c H [] 600000 7302250 (lw_Z below #[Value.ref b] s) (F0 m pc ls [.int 1]) := by
  intro T hT X
  obtain ⟨fs, hret, hrun, hended, hW, hframe⟩ := X.leave (v := some (.int 1)) (hlocks := hlocks) (fun h => by rw [hr] at h; cases h)
  have hmeth' : T.vm.method? m = some meth := X.method'
  refine ⟨T.setFrames fs, ?_, .returned (some (.int 1)), hrun, hended, rfl, ⟨_, rfl⟩, hW, hframe⟩
  jvm_step X.here [X.here.top, hx, hb, hdg, hmeth', hr, ret, narrow_b1]
  (try refine ⟨rfl, ?_⟩); (try refine ⟨rfl, ?_⟩)
  first | (intro acts; rw [hret _ acts rfl rfl rfl]) | rw [hret _ _ rfl rfl rfl]
  exact Steps.refl _
/-- what holds at the law's entry: the machine, the code, the tables' words (any of lw_tbl by 'hts w (by decide +kernel)'), the script of L ints xs at the cell b, what the Statement gives of the start (any of its parts by flat_of_before) -/
def lw_At (p : Program) (s : State) (m : MethodId) (meth : Method) (c : Code) (b L : Nat) (xs : Nat → Int32) : Prop :=
  p.tables.exec = Jvm.exec ∧ c.code = code ∧ meth.sig.returnType = ret ∧ c.maxLocals = 4 ∧ s.vm.findClass R_law = some m.cls ∧ (∀ w ∈ lw_tbl, w.before #[Value.ref b] s = true) ∧ va_X b L xs s s.heap ∧ b < s.heap.size ∧ meth.locks = false ∧ (Jvm.Cond.and given_1 narrow_1).before #[Value.ref b] s = true
/-! THE LAW'S WALK: two worlds side by side; its locals are the script (vr 0), the class (vr 1), the reference (vr 2), its int -/
def lA (b : Nat) (ad bd : Nat → Nat) : Nat → Nat := fun k => if k = 0 then b else if k = 1 then ad 0 else bd 0
def LC (p : Program) (s : State) (m : MethodId) (meth : Method) (c : Code) (b L : Nat) (xs : Nat → Int32) (D : va_G) (dA : Nat → ClassId) (ad : Nat → Nat) (dB : Nat → ClassId) (bd : Nat → Nat) : Prop :=
  lw_At p s m meth c b L xs ∧ va_K D eCl [] s ∧ eKA shA dA s ∧ eKA shB dB s ∧ eInj shA ad ∧ eInj shB bd ∧ (∀ i j, i < shA.length → j < shB.length → ad i ≠ bd j) ∧ (∀ i, i < shA.length → s.heap.size ≤ ad i) ∧ (∀ j, j < shB.length → s.heap.size ≤ bd j)
def LH (s : State) (D : va_G) (dA : Nat → ClassId) (ad : Nat → Nat) (dB : Nat → ClassId) (bd : Nat → Nat) (σ τ : eS) (H : Heap) (locs : List Loc) : Prop :=
  va_P D eCl (eW shA dA ad σ) H ∧ va_P D eCl (eW shB dB bd τ) H ∧ eGd shA σ ∧ eGd shB τ ∧ va_S (fun q : Nat => s.heap.size ≤ q) s.heap H locs
def LOk (b L : Nat) (xs : Nat → Int32) (cells slots pc : Nat) (ls : List (Option eV)) (st : List eV) (σ τ : eS) : Prop :=
  ∀ (l : Launch) (p : Program) (e : Env) (s : State) (m : MethodId) (below : List Frame) (meth : Method) (c : Code) (D : va_G) (dA : Nat → ClassId) (ad : Nat → Nat) (dB : Nat → ClassId) (bd : Nat → Nat) (H : Heap) (locs : List Loc) (la : Array Slot),
    LC p s m meth c b L xs D dA ad dB bd → LH s D dA ad dB bd σ τ H locs → eLs la 4 (lA b ad bd) ls → eKs st →
    W p l e room_1 s m #[Value.ref b] below meth c H locs cells slots (lw_Z below #[Value.ref b] s) (F0 m pc la (st.map (eR (lA b ad bd))))
def tOk (T : List (Nat × Instr × Nat)) : Prop := ∀ e ∈ T, decode code e.1 = .ok (e.2.1, e.2.2 - e.1)
theorem tOk_of {T : List (Nat × Instr × Nat)} (p : Nat) (h : dkT code T (code.data.toList.drop p) p = true) : tOk T := dkT_all T p h
theorem tOk.d {T : List (Nat × Instr × Nat)} (h : tOk T) (i : Nat) {pc n n' : Nat} {ins : Instr} (hd : nth T i = some (pc, ins, n')) (hn : pc + n = n') : decode code pc = .ok (ins, n) := by
  have h1 := h _ (nth_mem hd)
  rw [h1, ← hn]
  show Except.ok (ins, pc + n - pc) = _
  rw [Nat.add_sub_cancel_left]
section E8
variable {b L : Nat} {xs : Nat → Int32} {cells slots pc pc' tgt : Nat} {ls : List (Option eV)} {st st' : List eV} {σ τ : eS}
theorem LOk.go {l : Launch} {p : Program} {e : Env} {s : State} {m : MethodId} {below : List Frame} {meth : Method} {c : Code} {D : va_G} {dA : Nat → ClassId} {ad : Nat → Nat} {dB : Nat → ClassId} {bd : Nat → Nat} {H : Heap} {locs : List Loc} {la : Array Slot} {n : Nat} {rest : List Value}
    (k : LOk b L xs cells slots pc' ls st' σ τ) (C : LC p s m meth c b L xs D dA ad dB bd) (hH : LH s D dA ad dB bd σ τ H locs) (hL : eLs la 4 (lA b ad bd) ls) (hS : eKs st') (hn : n = pc') (hr : st'.map (eR (lA b ad bd)) = rest) :
    W p l e room_1 s m #[Value.ref b] below meth c H locs cells slots (lw_Z below #[Value.ref b] s) (F0 m n la rest) := by
  subst hn; subst hr
  exact k l p e s m below meth c D dA ad dB bd H locs la C hH hL hS
theorem lo_ald {k : Fin 4} {z : Nat} (hd : decode code pc = .ok (.aload_n k, 1)) (hl : nth ls k.val = some (some (vr z))) (hn : pc + 1 = pc') (K : LOk b L xs cells slots pc' ls (vr z :: st) σ τ) : LOk b L xs cells slots pc ls st σ τ := by
  intro l p e s m below meth c D dA ad dB bd H locs la C hH hL hS
  have h := hL.2.2.2 _ _ (nth_get hl)
  exact lv_aload_n C.1.1 C.1.2.1 hd rfl h.1 (LOk.go K C hH hL ⟨h.2, hS⟩ hn rfl)
theorem lo_ild {k : Fin 4} {z : Int} (hd : decode code pc = .ok (.iload_n k, 1)) (hl : nth ls k.val = some (some (vi z))) (hn : pc + 1 = pc') (K : LOk b L xs cells slots pc' ls (vi z :: st) σ τ) : LOk b L xs cells slots pc ls st σ τ := by
  intro l p e s m below meth c D dA ad dB bd H locs la C hH hL hS
  have h := hL.2.2.2 _ _ (nth_get hl)
  exact lv_iload_n C.1.1 C.1.2.1 hd rfl h.1 (LOk.go K C hH hL ⟨h.2, hS⟩ hn rfl)
theorem lo_ic {z : Int} (hd : decode code pc = .ok (.iconst z, 1)) (hn : pc + 1 = pc') (hr : rg z) (K : LOk b L xs cells slots pc' ls (vi z :: st) σ τ) : LOk b L xs cells slots pc ls st σ τ := by
  intro l p e s m below meth c D dA ad dB bd H locs la C hH hL hS
  exact lv_iconst C.1.1 C.1.2.1 hd rfl (LOk.go K C hH hL ⟨hr, hS⟩ hn rfl)
theorem lo_bp {z : Int} (hd : decode code pc = .ok (.bipush z, 2)) (hn : pc + 2 = pc') (hr : rg z) (hv : (Int8.ofInt z).toInt32 = Int32.ofInt z) (K : LOk b L xs cells slots pc' ls (vi z :: st) σ τ) : LOk b L xs cells slots pc ls st σ τ := by
  intro l p e s m below meth c D dA ad dB bd H locs la C hH hL hS
  exact lv_bipush C.1.1 C.1.2.1 hd hv (LOk.go K C hH hL ⟨hr, hS⟩ hn rfl)
theorem lo_add {u v : Int} (hd : decode code pc = .ok (.iadd, 1)) (hn : pc + 1 = pc') (hr : rg (u + v)) (K : LOk b L xs cells slots pc' ls (vi (u + v) :: st) σ τ) : LOk b L xs cells slots pc ls (vi v :: vi u :: st) σ τ := by
  intro l p e s m below meth c D dA ad dB bd H locs la C hH hL hS
  exact lv_iadd C.1.1 C.1.2.1 hd (LOk.go K C hH hL ⟨hr, hS.2.2⟩ hn (by show Value.int (Int32.ofInt (u + v)) :: _ = _; rw [Int32.ofInt_add]))
theorem lo_sub {u v : Int} (hd : decode code pc = .ok (.isub, 1)) (hn : pc + 1 = pc') (hr : rg (u - v)) (K : LOk b L xs cells slots pc' ls (vi (u - v) :: st) σ τ) : LOk b L xs cells slots pc ls (vi v :: vi u :: st) σ τ := by
  intro l p e s m below meth c D dA ad dB bd H locs la C hH hL hS
  exact lv_isub C.1.1 C.1.2.1 hd (LOk.go K C hH hL ⟨hr, hS.2.2⟩ hn (by show Value.int (Int32.ofInt (u - v)) :: _ = _; rw [Int32.ofInt_sub]))
theorem lo_and {u v : Int} (hd : decode code pc = .ok (.iand, 1)) (hn : pc + 1 = pc') (K : LOk b L xs cells slots pc' ls (vi (iand u v) :: st) σ τ) : LOk b L xs cells slots pc ls (vi v :: vi u :: st) σ τ := by
  intro l p e s m below meth c D dA ad dB bd H locs la C hH hL hS
  exact lv_iand C.1.1 C.1.2.1 hd (LOk.go K C hH hL ⟨rg_to _, hS.2.2⟩ hn (by show Value.int (Int32.ofInt (iand u v)) :: _ = _; unfold iand; rw [Int32.ofInt_toInt]))
theorem lo_pop {v : eV} (hd : decode code pc = .ok (.pop, 1)) (hn : pc + 1 = pc') (hc : eCat v = 1) (K : LOk b L xs cells slots pc' ls st σ τ) : LOk b L xs cells slots pc ls (v :: st) σ τ := by
  intro l p e s m below meth c D dA ad dB bd H locs la C hH hL hS
  exact lv_pop C.1.1 C.1.2.1 hd (by rw [eR_cat]; exact hc) (LOk.go K C hH hL hS.2 hn rfl)
theorem lo_pop2 {z : Int} (hd : decode code pc = .ok (.pop2, 1)) (hn : pc + 1 = pc') (K : LOk b L xs cells slots pc' ls st σ τ) : LOk b L xs cells slots pc ls (vl z :: st) σ τ := by
  intro l p e s m below meth c D dA ad dB bd H locs la C hH hL hS
  exact lv_pop2_2 C.1.1 C.1.2.1 hd rfl (LOk.go K C hH hL hS.2 hn rfl)
theorem lo_goto {off : Int} (hd : decode code pc = .ok (.goto off, 3)) (ht : (pc : Int) + off = (tgt : Int)) (K : LOk b L xs cells slots tgt ls st σ τ) : LOk b L xs cells slots pc ls st σ τ := by
  intro l p e s m below meth c D dA ad dB bd H locs la C hH hL hS
  exact lv_goto C.1.1 C.1.2.1 hd ht (LOk.go K C hH hL hS rfl rfl)
theorem lo_gt {off u v : Int} (hd : decode code pc = .ok (.if_icmp .gt off, 3)) (hn : pc + 3 = pc') (ht : (pc : Int) + off = (tgt : Int)) (kt : v < u → LOk b L xs cells slots tgt ls st σ τ) (kf : u ≤ v → LOk b L xs cells slots pc' ls st σ τ) : LOk b L xs cells slots pc ls (vi v :: vi u :: st) σ τ := by
  intro l p e s m below meth c D dA ad dB bd H locs la C hH hL hS
  obtain ⟨hv, hu, hs⟩ := hS
  have e4 := rg_lt hv hu
  refine lv_icmp_gt C.1.1 C.1.2.1 hd ht (fun q => ?_) (fun q => ?_)
  · exact LOk.go (kt (e4.mp q)) C hH hL hs rfl rfl
  · exact LOk.go (kf (Int.not_lt.mp (fun z => q (e4.mpr z)))) C hH hL hs hn rfl
theorem lo_eq {off u v : Int} (hd : decode code pc = .ok (.if_icmp .eq off, 3)) (hn : pc + 3 = pc') (ht : (pc : Int) + off = (tgt : Int)) (kt : u = v → LOk b L xs cells slots tgt ls st σ τ) (kf : ¬ u = v → LOk b L xs cells slots pc' ls st σ τ) : LOk b L xs cells slots pc ls (vi v :: vi u :: st) σ τ := by
  intro l p e s m below meth c D dA ad dB bd H locs la C hH hL hS
  obtain ⟨hv, hu, hs⟩ := hS
  have e4 := rg_eq hu hv
  refine lv_icmp_eq C.1.1 C.1.2.1 hd ht (fun q => ?_) (fun q => ?_)
  · exact LOk.go (kt (e4.mp q)) C hH hL hs rfl rfl
  · exact LOk.go (kf (fun z => q (e4.mpr z))) C hH hL hs hn rfl
theorem lo_tin {dflt lo hi off z : Int} {offs : Array Int} {len : Nat} (hd : decode code pc = .ok (.tableswitch dflt lo hi offs, len)) (h1 : lo ≤ z) (h2 : z ≤ hi) (ho : offs[(z - lo).toNat]? = some off) (ht : (pc : Int) + off = (tgt : Int)) (K : LOk b L xs cells slots tgt ls st σ τ) : LOk b L xs cells slots pc ls (vi z :: st) σ τ := by
  intro l p e s m below meth c D dA ad dB bd H locs la C hH hL hS
  have e := rg_in (z := z) hS.1
  exact lv_tableIn C.1.1 C.1.2.1 hd (by rw [e]; omega) (by rw [e]; omega) (by rw [e]; exact ho) ht (LOk.go K C hH hL hS.2 rfl rfl)
theorem lo_tout {dflt lo hi z : Int} {offs : Array Int} {len : Nat} (hd : decode code pc = .ok (.tableswitch dflt lo hi offs, len)) (h1 : z < lo ∨ hi < z) (ht : (pc : Int) + dflt = (tgt : Int)) (K : LOk b L xs cells slots tgt ls st σ τ) : LOk b L xs cells slots pc ls (vi z :: st) σ τ := by
  intro l p e s m below meth c D dA ad dB bd H locs la C hH hL hS
  have e := rg_in (z := z) hS.1
  exact lv_tableOut C.1.1 C.1.2.1 hd (by rw [e]; exact h1) ht (LOk.go K C hH hL hS.2 rfl rfl)
theorem lo_inc {x0 x1 x2 : Option eV} {n z : Int} (hd : decode code pc = .ok (.iinc 3 n, 3)) (hn : pc + 3 = pc') (hp : eNl x2 = true) (hr : rg (z + n)) (K : LOk b L xs cells slots pc' [x0, x1, x2, some (vi (z + n))] st σ τ) : LOk b L xs cells slots pc [x0, x1, x2, some (vi z)] st σ τ := by
  intro l p e s m below meth c D dA ad dB bd H locs la C hH hL hS
  have hm := eAl_mem (lA b ad bd) [x0, x1, x2, some (vi z)] 0 3 (vi z) rfl
  rw [Nat.zero_add] at hm
  obtain ⟨q, hq⟩ := List.getElem?_of_mem hm
  have K' : LOk b L xs cells slots pc' (eSet 3 (vi (z + n)) [x0, x1, x2, some (vi z)]) st σ τ := by
    show LOk b L xs cells slots pc' [x0, x1, eClr x2, some (vi (z + n))] st σ τ
    rw [eClr_id hp]
    exact K
  exact lv_iinc (v := Int32.ofInt (z + n)) C.1.1 C.1.2.1 hd hL.has hq (by rw [Int32.ofInt_add]) (by decide) rfl (fun la' h' => LOk.go K' C hH (hL.st1 (j := 3) (v := vi (z + n)) (by decide) hr h') hS hn rfl)
/-- the script -/
theorem lo_sld {j : Int} (hd : decode code pc = .ok (.iaload, 1)) (hn : pc + 1 = pc') (hj : 0 ≤ j ∧ j < (L : Int)) (hL' : L ≤ 4096) (K : LOk b L xs cells slots pc' ls (vi (xs j.toNat).toInt :: st) σ τ) : LOk b L xs cells slots pc ls (vi j :: vr 0 :: st) σ τ := by
  intro l p e s m below meth c D dA ad dB bd H locs la C hH hL hS
  obtain ⟨e1, e2⟩ := ix_nat (j := j) (n := L) hS.1 hj.1 hj.2
  refine va_sld C.1.1 C.1.2.1 C.1.2.2.2.2.2.2.1 C.1.2.2.2.2.2.2.2.1 (Nat.not_le.mpr C.1.2.2.2.2.2.2.2.1) hH.2.2.2.2 e2 hd ?_
  refine LOk.go K C hH hL ⟨rg_to _, hS.2.2⟩ hn ?_
  show Value.int (Int32.ofInt (xs j.toNat).toInt) :: _ = _
  rw [Int32.ofInt_toInt, e1]
theorem lo_slen (hd : decode code pc = .ok (.arraylength, 1)) (hn : pc + 1 = pc') (hL' : L ≤ 4096) (K : LOk b L xs cells slots pc' ls (vi (L : Int) :: st) σ τ) : LOk b L xs cells slots pc ls (vr 0 :: st) σ τ := by
  intro l p e s m below meth c D dA ad dB bd H locs la C hH hL hS
  refine va_slen C.1.1 C.1.2.1 C.1.2.2.2.2.2.2.1 C.1.2.2.2.2.2.2.2.1 (Nat.not_le.mpr C.1.2.2.2.2.2.2.2.1) hH.2.2.2.2 hd ?_
  exact LOk.go K C hH hL ⟨(⟨by omega, by omega⟩ : rg (L : Int)), hS.2⟩ hn rfl
/-- its end -/
theorem lo_end (hd : decode code pc = .ok (.ireturn, 1)) (hc : cells ≤ 600000) (hs : slots ≤ 7302250) : LOk b L xs cells slots pc ls [vi 1] σ τ := by
  intro l p e s m below meth c D dA ad dB bd H locs la C hH hL hS
  refine va_forget (fun q hq => hH.2.2.2.2.2.2 q hq) ?_
  refine W.widen (k := 600000) (n := 7302250) hc hs ?_
  exact lw_ret C.1.1 C.1.2.1 C.1.2.2.1 C.1.2.2.2.2.2.2.2.2.1 hd
/-- a call of a method of one of the two objects -/
theorem og_run {sh : eSh} {dA : Nat → ClassId} {ad : Nat → Nat} {D : va_G} {M' : eM} {zs : List Int} {Q' : eS → Option eV → Prop} {x ci : Nat} {ts : List Nat} {l : Launch} {p : Program} {e : Env} {s : State} {m : MethodId} {below : List Frame} {meth : Method} {c : Code} {H : Heap} {locs : List Loc} {la : Array Slot} {rest : List Value} {Z : State → Prop}
    (C0 : lw_At p s m meth c b L xs) (hK : va_K D eCl [] s) (hKA : eKA sh dA s) (hi : eInj sh ad) (hlow : ∀ i, i < sh.length → s.heap.size ≤ ad i) (hP : va_P D eCl (eW sh dA ad σ) H) (hG : eGd sh σ) (hS : va_S (fun q : Nat => s.heap.size ≤ q) s.heap H locs)
    (hd : decode code pc = .ok (.invokevirtual x, 3)) (hl : eLkV RL x (eNm M') zs.length) (hM : Mt sh M' (vr 0 :: zs.map vi) σ Q') (hs : nth sh 0 = some (0, ci, ts)) (hc : (eCl.getD ci ("", fun _ => ("", "", "", false), 0)).1 = eOwn M') (hci : ci < eCl.length)
    (hr : (eRm M').frames + 1 ≤ room_1.frames ∧ 8 + (eNL M' + 11) + (eRm M').locals ≤ room_1.locals) (hks : ∀ z ∈ zs, rg z) (hla : la.size = 4) (hw : (rest.map fun v => v.category).sum ≤ 8) (hcs : cells ≤ 600000) (hss : slots ≤ 7302250)
    (K : ∀ (σ' : eS) (v : Option eV) (H' : Heap) (locs' : List Loc), Q' σ' v → (∀ x, v = some x → eK x) → eGd sh σ' → va_P D eCl (eW sh dA ad σ') H' → va_S (fun q : Nat => s.heap.size ≤ q) s.heap H' locs' → (∀ q, q < H.size → ¬ eA sh ad q → H'[q]? = H[q]?) →
      W p l e room_1 s m #[Value.ref b] below meth c H' locs' cells slots Z (F0 m (pc + 3) la ((v.map (eR ad)).toList ++ rest))) :
    W p l e room_1 s m #[Value.ref b] below meth c H locs cells slots Z (F0 m pc la ((zs.map (fun z => Value.int (Int32.ofInt z))).reverse ++ Value.ref (ad 0) :: rest)) := by
  obtain ⟨w1, w2, w3, w4, w5, w6, w7⟩ := hl
  have hts : ∀ w ∈ eTbl, w.before #[Value.ref b] s = true := fun w hw => C0.2.2.2.2.2.1 w (eTbl_in hw)
  have hcls : (eNm M').cls = eOwn M' := hM.1.2.2.2.1
  have k1 : eKs (vr 0 :: zs.map vi) := eKs_of fun v hv => by
    rcases List.mem_cons.mp hv with rfl | hv
    · trivial
    · obtain ⟨z, hz, rfl⟩ := List.mem_map.mp hv
      exact hks z hz
  have hMet := hM.2 l D dA ad hi k1 hG
  have hmp : (zs.map vi).map (eR ad) = zs.map (fun z => Value.int (Int32.ofInt z)) := by rw [List.map_map]; rfl
  rw [← hmp]
  have hq1 : eCl[ci]? = some (eCl.getD ci ("", fun _ => ("", "", "", false), 0)) := by
    rw [List.getD_eq_getElem?_getD, List.getElem?_eq_getElem hci]
    rfl
  have hg : GoodIn eTbl (wsV RL x (eOwn M') (eNm M') (eWs M')) := eGoodIn fun w hw => by
    simp only [wsV, List.mem_append, List.mem_cons, List.not_mem_nil, or_false] at hw
    rcases hw with (rfl | rfl | rfl | rfl) | hw
    · exact w1
    · exact w3
    · rw [← hcls]; exact w4
    · rw [← hcls]; exact w2
    · rcases List.mem_cons.mp hw with rfl | hw
      · exact hM.1.2.1
      · exact hw
  have hrecv : ∃ cell : Cell, H[ad 0]? = some cell ∧ cell.vm.isStatics = false ∧ s.vm.findClass (eOwn M') = some cell.cls := by
    have hw1 := eW_at (dA := dA) (ad := ad) (σ := σ) (nth_get hs)
    have := va_recv (q0 := 0) hK hP hq1 hw1
    rwa [hc] at this
  have hrun := va_runV (R := room_1) (locs := locs) (cells := cells) (slots := slots) (C := eOwn M') (As := (zs.map vi).map (eR ad)) (rest := rest) (b := ad 0) (g := F0 m pc la (((zs.map vi).map (eR ad)).reverse ++ Value.ref (ad 0) :: rest)) (below := below) (meth := meth) (e := e) ⟨C0.1, C0.2.1, C0.2.2.2.1, C0.2.2.2.2.1, hts⟩ hMet (cwV (R := room_1) zs.length hts hg rfl hM.1.2.2.2.2.1 hM.1.2.2.2.2.2 ⟨hcls, w5, w6, w7⟩ hr) ⟨ePc_blind, hrecv, fun U hU hW => ⟨rfl, by rw [hU]; exact hP, va_K.moved hW.alike hK, eKA.moved hW.alike hKA⟩⟩ rfl (by rw [List.length_map, List.length_map]) hla rfl (lv_room hw) hd ⟨hcs, hss⟩
  intro T hT X
  obtain ⟨v, st₀, t, T', Lc, h0, X', hL', e1, e2, ⟨⟨v', σ', hv, hq, hk, hgd, hP'⟩, hF⟩, hgo⟩ := hrun T hT X
  cases hv
  have hS' : va_S (fun q : Nat => s.heap.size ≤ q) s.heap T'.heap (locs ++ Lc) := by
    refine ⟨?_, fun q h1 h2 => ?_, fun q hq' => ?_⟩
    · rw [e1]
      exact Nat.le_trans hS.1 (by rw [← h0]; exact hF.1)
    · have hn : ¬ eA sh ad q := fun ⟨i, hi1, hi2⟩ => h2 (by rw [hi2]; exact hlow i hi1)
      rw [e1, hF.2 q (by rw [h0]; exact Nat.lt_of_lt_of_le h1 hS.1) hn, h0]
      exact hS.2.1 q h1 h2
    · rcases List.mem_append.mp hq' with h | h
      · exact hS.2.2 q h
      · obtain ⟨i, hi1, hi2⟩ := hL' q h
        show s.heap.size ≤ q.base
        rw [hi2]; exact hlow i hi1
  have h := K σ' v' T'.heap (locs ++ Lc) hq hk hgd (by rw [e1]; exact hP') hS' (fun q h1 h2 => by rw [e1, hF.2 q (by rw [h0]; exact h1) h2, h0])
  obtain ⟨t2, a1, b1⟩ := h T' rfl X'
  exact ⟨t2, hgo t2 a1, b1⟩
theorem LH.setA {s : State} {D : va_G} {dA : Nat → ClassId} {ad : Nat → Nat} {dB : Nat → ClassId} {bd : Nat → Nat} {H H' : Heap} {locs locs' : List Loc} {σ' : eS} {p : Program} {m : MethodId} {meth : Method} {c : Code} (C : LC p s m meth c b L xs D dA ad dB bd) (h : LH s D dA ad dB bd σ τ H locs) (g : eGd shA σ') (hP : va_P D eCl (eW shA dA ad σ') H') (hS : va_S (fun q : Nat => s.heap.size ≤ q) s.heap H' locs') (hf : ∀ q, q < H.size → ¬ eA shA ad q → H'[q]? = H[q]?) : LH s D dA ad dB bd σ' τ H' locs' := by
  refine ⟨hP, h.2.1.kept (fun k q hq => ?_), g, h.2.2.2.1, hS⟩
  have hlt := (h.2.1 k q hq).lt
  obtain ⟨r, h1, h2⟩ := eW_inv hq
  refine hf q.1 hlt (fun ⟨i, hi1, hi2⟩ => ?_)
  rw [h2] at hi2
  exact C.2.2.2.2.2.2.1 i k hi1 (List.getElem?_eq_some_iff.mp h1).1 hi2.symm
theorem LH.setB {s : State} {D : va_G} {dA : Nat → ClassId} {ad : Nat → Nat} {dB : Nat → ClassId} {bd : Nat → Nat} {H H' : Heap} {locs locs' : List Loc} {τ' : eS} {p : Program} {m : MethodId} {meth : Method} {c : Code} (C : LC p s m meth c b L xs D dA ad dB bd) (h : LH s D dA ad dB bd σ τ H locs) (g : eGd shB τ') (hP : va_P D eCl (eW shB dB bd τ') H') (hS : va_S (fun q : Nat => s.heap.size ≤ q) s.heap H' locs') (hf : ∀ q, q < H.size → ¬ eA shB bd q → H'[q]? = H[q]?) : LH s D dA ad dB bd σ τ' H' locs' := by
  refine ⟨h.1.kept (fun k q hq => ?_), hP, h.2.2.1, g, hS⟩
  have hlt := (h.1 k q hq).lt
  obtain ⟨r, h1, h2⟩ := eW_inv hq
  refine hf q.1 hlt (fun ⟨i, hi1, hi2⟩ => ?_)
  rw [h2] at hi2
  exact C.2.2.2.2.2.2.1 k i (List.getElem?_eq_some_iff.mp h1).1 hi1 hi2
theorem zs_map (f : Nat → Nat) (zs : List Int) (st : List eV) (r : Nat) : ((zs.map vi).reverse ++ vr r :: st).map (eR f) = (zs.map (fun z => Value.int (Int32.ofInt z))).reverse ++ Value.ref (f r) :: st.map (eR f) := by
  rw [List.map_append, List.map_reverse, List.map_cons, List.map_map]
  rfl
theorem zs_ks {zs : List Int} {st : List eV} {r : Nat} (h : eKs ((zs.map vi).reverse ++ vr r :: st)) : (∀ z ∈ zs, rg z) ∧ eKs st := by
  have h1 := eKs_at h
  exact ⟨fun z hz => h1 (vi z) (List.mem_append_left _ (List.mem_reverse.mpr (List.mem_map.mpr ⟨z, hz, rfl⟩))), eKs_of fun v hv => h1 v (List.mem_append_right _ (List.mem_cons_of_mem _ hv))⟩
theorem lo_cA {x : Nat} {M' : eM} (zs : List Int) {Q' : eS → Option eV → Prop} {st0 : List eV} (hd : decode code pc = .ok (.invokevirtual x, 3)) (hn : pc + 3 = pc') (hl : eLkV RL x (eNm M') zs.length) (hM : Mt shA M' (vr 0 :: zs.map vi) σ Q') (hc : (eCl.getD 9 ("", fun _ => ("", "", "", false), 0)).1 = eOwn M')
    (hr : (eRm M').frames + 1 ≤ room_1.frames ∧ 8 + (eNL M' + 11) + (eRm M').locals ≤ room_1.locals) (hst : st0 = (zs.map vi).reverse ++ vr 1 :: st) (hw : (st.map eCat).sum ≤ 8) (hcs : cells ≤ 600000) (hss : slots ≤ 7302250) (hq : ∀ σ' v, Q' σ' v → (∃ z, v = some (vi z)) ∨ (∃ z, v = some (vl z)))
    (K : ∀ σ' v, Q' σ' v → LOk b L xs cells slots pc' ls (v.toList ++ st) σ' τ) : LOk b L xs cells slots pc ls st0 σ τ := by
  intro l p e s m below meth c D dA ad dB bd H locs la C hH hL hS
  subst hst
  rw [zs_map]
  obtain ⟨k1, k2⟩ := zs_ks hS
  refine og_run (sh := shA) (dA := dA) (ad := ad) C.1 C.2.1 C.2.2.1 C.2.2.2.2.1 C.2.2.2.2.2.2.2.1 hH.1 hH.2.2.1 hH.2.2.2.2 hd hl hM (ci := 9) rfl hc (Nat.le_of_ble_eq_true rfl) hr k1 hL.1 (by rw [cat_sum]; exact hw) hcs hss (fun σ' v H' locs' q1 q2 q3 q4 q5 q6 => ?_)
  have e : (v.map (eR ad)).toList ++ st.map (eR (lA b ad bd)) = (v.toList ++ st).map (eR (lA b ad bd)) := by
    rcases hq σ' v q1 with ⟨z, rfl⟩ | ⟨z, rfl⟩ <;> rfl
  rw [e]
  exact LOk.go (K σ' v q1) C (LH.setA C hH q3 q4 q5 q6) hL (by cases v with | none => exact k2 | some y => exact ⟨q2 y rfl, k2⟩) hn rfl
theorem lo_cB {x : Nat} {M' : eM} (zs : List Int) {Q' : eS → Option eV → Prop} {st0 : List eV} (hd : decode code pc = .ok (.invokevirtual x, 3)) (hn : pc + 3 = pc') (hl : eLkV RL x (eNm M') zs.length) (hM : Mt shB M' (vr 0 :: zs.map vi) τ Q') (hc : (eCl.getD 10 ("", fun _ => ("", "", "", false), 0)).1 = eOwn M')
    (hr : (eRm M').frames + 1 ≤ room_1.frames ∧ 8 + (eNL M' + 11) + (eRm M').locals ≤ room_1.locals) (hst : st0 = (zs.map vi).reverse ++ vr 2 :: st) (hw : (st.map eCat).sum ≤ 8) (hcs : cells ≤ 600000) (hss : slots ≤ 7302250) (hq : ∀ σ' v, Q' σ' v → (∃ z, v = some (vi z)) ∨ (∃ z, v = some (vl z)))
    (K : ∀ τ' v, Q' τ' v → LOk b L xs cells slots pc' ls (v.toList ++ st) σ τ') : LOk b L xs cells slots pc ls st0 σ τ := by
  intro l p e s m below meth c D dA ad dB bd H locs la C hH hL hS
  subst hst
  rw [zs_map]
  obtain ⟨k1, k2⟩ := zs_ks hS
  refine og_run (sh := shB) (dA := dB) (ad := bd) C.1 C.2.1 C.2.2.2.1 C.2.2.2.2.2.1 C.2.2.2.2.2.2.2.2 hH.2.1 hH.2.2.2.1 hH.2.2.2.2 hd hl hM (ci := 10) rfl hc (Nat.le_of_ble_eq_true rfl) hr k1 hL.1 (by rw [cat_sum]; exact hw) hcs hss (fun σ' v H' locs' q1 q2 q3 q4 q5 q6 => ?_)
  have e : (v.map (eR bd)).toList ++ st.map (eR (lA b ad bd)) = (v.toList ++ st).map (eR (lA b ad bd)) := by
    rcases hq σ' v q1 with ⟨z, rfl⟩ | ⟨z, rfl⟩ <;> rfl
  rw [e]
  exact LOk.go (K σ' v q1) C (LH.setB C hH q3 q4 q5 q6) hL (by cases v with | none => exact k2 | some y => exact ⟨q2 y rfl, k2⟩) hn rfl
end E8
end
