section
theorem lc_eq {a b : Int} (ha : 1 ≤ a) (hb : 1 ≤ b) : a / (Int.gcd a b : Int) * b = (Int.lcm a b : Int) := by
  have hg : (Int.gcd a b : Int) ≠ 0 := by have := Int.gcd_pos_of_ne_zero_left (a := a) b (by omega); omega
  have h1 : (Int.gcd a b : Int) * (a / (Int.gcd a b : Int)) = a := Int.mul_ediv_cancel' (Int.gcd_dvd_left a b)
  have h2 : (Int.lcm a b : Int) = a * b / (Int.gcd a b : Int) := by
    rw [Int.lcm_eq_mul_div, Int.natCast_ediv, Int.natCast_mul, Int.natAbs_of_nonneg (by omega), Int.natAbs_of_nonneg (by omega)]
  rw [h2]
  have h3 : a * b = (Int.gcd a b : Int) * (a / (Int.gcd a b : Int) * b) := by rw [← Int.mul_assoc, h1]
  rw [h3, Int.mul_ediv_cancel_left _ hg]
/-- least multiple, within; or beyond -/
theorem lcS_cs (a b l : Int) (hl : 1 ≤ l) : lcS a b l = -1 ∨ (1 ≤ a ∧ 1 ≤ b ∧ lcS a b l = (Int.lcm a b : Int) ∧ 1 ≤ lcS a b l ∧ lcS a b l ≤ l) := by
  unfold lcS
  by_cases h1 : a < 1 ∨ b < 1
  · rw [if_pos h1]; exact Or.inl rfl
  · rw [if_neg h1]
    by_cases h2 : l < a / (Int.gcd a b : Int) * b
    · rw [if_pos h2]; exact Or.inl rfl
    · rw [if_neg h2]
      have e := lc_eq (a := a) (b := b) (by omega) (by omega)
      have p := Int.lcm_pos (m := a) (n := b) (by omega) (by omega)
      exact Or.inr ⟨by omega, by omega, e, by omega, by omega⟩
theorem lcS_neg {a b l : Int} (h : a = -1) : lcS a b l = -1 := by unfold lcS; rw [if_pos (by omega)]
theorem cbR_neg {un : Int → Int} {i v : Int} {j : Nat} : ∀ {j' : Nat}, j ≤ j' → cbR un i v j = -1 → cbR un i v j' = -1
  | 0, h, e => by rw [← e, show j = 0 by omega]
  | j' + 1, h, e => by
    rcases (by omega : j = j' + 1 ∨ j ≤ j') with q | q
    · rw [← q]; exact e
    · exact lcS_neg (cbR_neg q e)
theorem cbC_neg {un : Int → Int} {n i : Nat} : ∀ {i' : Nat}, i ≤ i' → cbC un n i = -1 → cbC un n i' = -1
  | 0, h, e => by rw [← e, show i = 0 by omega]
  | i' + 1, h, e => by
    rcases (by omega : i = i' + 1 ∨ i ≤ i') with q | q
    · rw [← q]; exact e
    · exact cbR_neg (j := 0) (Nat.zero_le _) (cbC_neg q e)
theorem cbR_cs {un : Int → Int} {i v : Int} (hv : v = -1 ∨ (1 ≤ v ∧ v ≤ 999999)) : ∀ j : Nat, cbR un i v j = -1 ∨ (1 ≤ v ∧ 1 ≤ cbR un i v j ∧ cbR un i v j ≤ 999999 ∧ v ∣ cbR un i v j ∧ (∀ y : Nat, y < j → un (i * 8 + y) ∣ cbR un i v j) ∧ ∀ m : Int, v ∣ m → (∀ y : Nat, y < j → un (i * 8 + y) ∣ m) → cbR un i v j ∣ m)
  | 0 => by
    rcases hv with q | q
    · exact Or.inl q
    · exact Or.inr ⟨q.1, q.1, q.2, Int.dvd_refl _, fun y h => absurd h (by omega), fun m h _ => h⟩
  | j + 1 => by
    rcases lcS_cs (cbR un i v j) (un (i * 8 + j)) 999999 (by omega) with q | ⟨q1, q2, q3, q4, q5⟩
    · exact Or.inl q
    · rcases cbR_cs (un := un) (i := i) hv j with w | ⟨w1, w2, w3, w4, w5, w6⟩
      · omega
      · refine Or.inr ⟨w1, q4, q5, ?_, fun y h => ?_, fun m a b => ?_⟩
        · rw [cbR, q3]; exact Int.dvd_trans w4 (Int.dvd_lcm_left _ _)
        · rw [cbR, q3]
          rcases (by omega : y < j ∨ y = j) with z | z
          · exact Int.dvd_trans (w5 y z) (Int.dvd_lcm_left _ _)
          · rw [z]; exact Int.dvd_lcm_right _ _
        · rw [cbR, q3]
          exact Int.coe_lcm_dvd (w6 m a (fun y h => b y (by omega))) (b j (by omega))
theorem cbC_cs {un : Int → Int} {n : Nat} : ∀ i : Nat, cbC un n i = -1 ∨ (1 ≤ cbC un n i ∧ cbC un n i ≤ 999999 ∧ (∀ x y : Nat, x < i → y < n → un (x * 8 + y) ∣ cbC un n i) ∧ ∀ m : Int, (∀ x y : Nat, x < i → y < n → un (x * 8 + y) ∣ m) → cbC un n i ∣ m)
  | 0 => Or.inr ⟨by simp [cbC], by simp [cbC], fun x y h => absurd h (by omega), fun m _ => by rw [cbC]; exact Int.one_dvd _⟩
  | i + 1 => by
    have hv : cbC un n i = -1 ∨ (1 ≤ cbC un n i ∧ cbC un n i ≤ 999999) := (cbC_cs i).imp id (fun h => ⟨h.1, h.2.1⟩)
    rcases cbR_cs (un := un) (i := i) hv n with q | ⟨w1, w2, w3, w4, w5, w6⟩
    · exact Or.inl q
    · rcases cbC_cs (un := un) (n := n) i with v | ⟨v1, v2, v3, v4⟩
      · omega
      · refine Or.inr ⟨w2, w3, fun x y a b => ?_, fun m a => ?_⟩
        · rw [cbC]
          rcases (by omega : x < i ∨ x = i) with z | z
          · exact Int.dvd_trans (v3 x y z b) w4
          · rw [z]; exact w5 y b
        · rw [cbC]
          exact w6 m (v4 m (fun x y c d => a x y (by omega) d)) (fun y c => a i y (by omega) c)
theorem cbR_cg {un un' : Int → Int} {i v : Int} : ∀ {j : Nat}, (∀ y : Nat, y < j → un (i * 8 + y) = un' (i * 8 + y)) → cbR un i v j = cbR un' i v j
  | 0, _ => rfl
  | j + 1, h => by rw [cbR, cbR, cbR_cg (fun y q => h y (by omega)), h j (by omega)]
theorem cbC_cg {un un' : Int → Int} {n : Nat} : ∀ {i : Nat}, (∀ x y : Nat, x < i → y < n → un (x * 8 + y) = un' (x * 8 + y)) → cbC un n i = cbC un' n i
  | 0, _ => rfl
  | i + 1, h => by rw [cbC, cbC, cbC_cg (fun x y q z => h x y (by omega) z), cbR_cg (fun y q => h i y (by omega) q)]
/-- in least terms over the least common number, nothing divides all -/
theorem lt_one {ab un : Int → Int} {n : Nat} {b g : Int} (hb : b = cbC un n n) (h1 : 1 ≤ b) (hg : 1 ≤ g) (hgb : g ∣ b) (hu : ∀ x y : Nat, x < n → y < n → 1 ≤ un (x * 8 + y) ∧ Int.gcd (un (x * 8 + y)) (ab (x * 8 + y)) = 1) (hgc : ∀ x y : Nat, x < n → y < n → g ∣ ab (x * 8 + y) * (b / un (x * 8 + y))) : g = 1 := by
  rcases cbC_cs (un := un) (n := n) n with q | ⟨q1, q2, q3, q4⟩
  · omega
  · rw [← hb] at q1 q2 q3 q4
    obtain ⟨m, hm⟩ := hgb
    have key : b ∣ m := q4 m (fun x y hx hy => by
      obtain ⟨u1, u2⟩ := hu x y hx hy
      obtain ⟨c, hc⟩ := q3 x y hx hy
      have hbu : b / un (x * 8 + y) = c := by rw [hc]; exact Int.mul_ediv_cancel_left _ (by omega)
      have d1 := hgc x y hx hy
      rw [hbu] at d1
      have d2 : g ∣ un (x * 8 + y) * c := by rw [← hc, hm]; exact Int.dvd_mul_right _ _
      have d3 : g ∣ (Int.gcd (un (x * 8 + y) * c) (ab (x * 8 + y) * c) : Int) := Int.dvd_coe_gcd d2 d1
      rw [Int.gcd_mul_right, u2, Nat.one_mul] at d3
      have d4 : g ∣ c := Int.dvd_natAbs.mp d3
      obtain ⟨k, hk⟩ := d4
      refine ⟨k, ?_⟩
      have e : g * m = g * (un (x * 8 + y) * k) := by rw [← hm, hc, hk, Int.mul_left_comm]
      exact Int.eq_of_mul_eq_mul_left (by omega) e)
    have mp : 1 ≤ m := by
      rcases (by omega : 1 ≤ m ∨ m ≤ 0) with z | z
      · exact z
      · have := Int.mul_le_mul_of_nonneg_left z (by omega : 0 ≤ g)
        omega
    have le := Int.le_of_dvd (by omega) key
    rcases (by omega : g = 1 ∨ 2 ≤ g) with z | z
    · exact z
    · have := Int.mul_le_mul_of_nonneg_right z (by omega : 0 ≤ m)
      omega
section PRC
variable {B B' : Int → Int} {L : Int}
def aB (B B' : Int → Int) (L : Int) : Prop := ∀ i : Int, 0 ≤ i → i < L → B i = B' i
theorem bl_cg (h : aB B B' L) {i : Int} (hi : 0 ≤ i) : blA B L i ↔ blA B' L i := by
  unfold blA
  constructor <;> intro q <;> have := h i hi q.1 <;> exact ⟨q.1, by have := q.2; omega⟩
theorem dg_cg (h : aB B B' L) {i : Int} (hi : 0 ≤ i) : dgA B L i ↔ dgA B' L i := by
  unfold dgA
  constructor <;> intro q <;> have := h i hi q.1 <;> exact ⟨q.1, by have := q.2; omega⟩
theorem sk_cg (h : aB B B' L) {p : Int} (hp : 0 ≤ p) : sk B L p = sk B' L p := by
  obtain ⟨a, b, c, d⟩ := sk_sp B' L p
  exact sk_un a (fun i x y => (bl_cg h (by omega)).mpr (c i x y)) (fun q => d ((bl_cg h (by omega)).mp q))
theorem de_cg (h : aB B B' L) {p : Int} (hp : 0 ≤ p) : de B L p = de B' L p := by
  obtain ⟨a, b, c, d⟩ := de_sp B' L p
  exact de_un a (fun i x y => (dg_cg h (by omega)).mpr (c i x y)) (fun q => d ((dg_cg h (by omega)).mp q))
theorem vaN_cg {p : Int} : ∀ {n : Nat}, (∀ i, p ≤ i → i < p + n → B i = B' i) → vaN B p n = vaN B' p n
  | 0, _ => rfl
  | n + 1, h => by rw [vaN, vaN, vaN_cg (fun i a b => h i a (by omega)), h (p + n) (by omega) (by omega)]
theorem vaD_cg (h : aB B B' L) {p : Int} (hp : 0 ≤ p) : vaD B p (de B L p) = vaD B' p (de B L p) := by
  unfold vaD
  exact vaN_cg (fun i a b => h i (by omega) (by have := (de_sp B L p).2.2.1 i a (by omega); exact this.1))
def aC (ab ab' un un' : Int → Int) (r k w : Int) : Prop := ∀ x y : Int, 0 ≤ x → 0 ≤ y → ((x < r ∧ y < w) ∨ (x = r ∧ y < k)) → ab (x * 8 + y) = ab' (x * 8 + y) ∧ un (x * 8 + y) = un' (x * 8 + y)
/-- the same fault, place, rows, width; and where there is no fault, the same fractions -/
def aO (o o' : oA) : Prop := o.1 = o'.1 ∧ o.2.1 = o'.2.1 ∧ o.2.2.1 = o'.2.2.1 ∧ o.2.2.2.1 = o'.2.2.2.1 ∧ (o.1 = 0 → aC o.2.2.2.2.1 o'.2.2.2.2.1 o.2.2.2.2.2 o'.2.2.2.2.2 o.2.2.1 0 o.2.2.2.1)
theorem aO_bad {c q r w : Int} {ab un ab' un' : Int → Int} (h : c ≠ 0) : aO (c, q, r, w, ab, un) (c, q, r, w, ab', un') := ⟨rfl, rfl, rfl, rfl, fun z => absurd z h⟩
theorem aC_uf {ab ab' un un' : Int → Int} {r k w a u : Int} (h : aC ab ab' un un' r k w) : aC (uf ab (r * 8 + k) a) (uf ab' (r * 8 + k) a) (uf un (r * 8 + k) u) (uf un' (r * 8 + k) u) r (k + 1) w := by
  intro x y hx hy hc
  unfold uf
  by_cases e : x * 8 + y = r * 8 + k
  · rw [if_pos e, if_pos e, if_pos e, if_pos e]; exact ⟨rfl, rfl⟩
  · rw [if_neg e, if_neg e, if_neg e, if_neg e]
    exact h x y hx hy (by omega)
theorem PR_cg (hB : aB B B' L) : ∀ (N : Nat) (p r k w : Int) (ab un ab' un' : Int → Int), (L - p).toNat < N → 0 ≤ p → aC ab ab' un un' r k w → aO (PR B L p r k w ab un) (PR B' L p r k w ab' un')
  | 0, p, r, k, w, ab, un, ab', un', hN, hp, hc => by omega
  | N + 1, p, r, k, w, ab, un, ab', un', hN, hp, hc => by
    obtain ⟨q, hq⟩ : ∃ q, sk B L p = q := ⟨_, rfl⟩
    have hq' : sk B' L p = q := by rw [← sk_cg hB hp]; exact hq
    have hpq : p ≤ q := by rw [← hq]; exact (sk_sp B L p).1
    by_cases c1 : q < L
    · have bq := hB q (by omega) c1
      by_cases c2 : B q = 59
      · rw [PR_59 hq c1 c2, PR_59 hq' c1 (by omega)]
        by_cases c3 : r = 8
        · rw [if_pos c3, if_pos c3]; exact aO_bad (by decide)
        · rw [if_neg c3, if_neg c3]
          by_cases c4 : 0 < r ∧ k ≠ w
          · rw [if_pos c4, if_pos c4]; exact aO_bad (by decide)
          · rw [if_neg c4, if_neg c4]
            refine PR_cg hB N _ _ _ _ _ _ _ _ (by omega) (by omega) (fun x y hx hy hz => hc x y hx hy ?_)
            rcases hz with hz | hz
            · by_cases z : r = 0
              · rw [if_pos z] at hz; omega
              · rw [if_neg z] at hz; omega
            · omega
      · by_cases c3 : 48 ≤ B q ∧ B q ≤ 57
        · obtain ⟨e, he⟩ : ∃ e, de B L q = e := ⟨_, rfl⟩
          have he' : de B' L q = e := by rw [← de_cg hB (by omega)]; exact he
          have qe : q < e := by rw [← he]; exact de_gt ⟨c1, c3⟩
          have hv : vaD B' q e = vaD B q e := by rw [← he]; exact (vaD_cg hB (by omega)).symm
          obtain ⟨f, hf⟩ : ∃ f, sk B L e = f := ⟨_, rfl⟩
          have hf' : sk B' L e = f := by rw [← sk_cg hB (by omega)]; exact hf
          have ef : e ≤ f := by rw [← hf]; exact (sk_sp B L e).1
          rw [PR_dig hq c1 c3 he, PR_dig hq' c1 (by omega) he', hv, hf, hf']
          by_cases c4 : 6 < e - q
          · rw [if_pos c4, if_pos c4]; exact aO_bad (by decide)
          · rw [if_neg c4, if_neg c4]
            by_cases c5 : r = 8 ∨ k = 8
            · rw [if_pos c5, if_pos c5]; exact aO_bad (by decide)
            · rw [if_neg c5, if_neg c5]
              by_cases c6 : 0 < r ∧ k = w
              · rw [if_pos c6, if_pos c6]; exact aO_bad (by decide)
              · rw [if_neg c6, if_neg c6]
                by_cases c7 : f < L ∧ B f = 47
                · have c7' : f < L ∧ B' f = 47 := ⟨c7.1, by rw [← hB f (by omega) c7.1]; exact c7.2⟩
                  rw [if_pos c7, if_pos c7']
                  obtain ⟨s, hs⟩ : ∃ s, sk B L (f + 1) = s := ⟨_, rfl⟩
                  have hs' : sk B' L (f + 1) = s := by rw [← sk_cg hB (by omega)]; exact hs
                  have fs : f + 1 ≤ s := by rw [← hs]; exact (sk_sp B L (f + 1)).1
                  obtain ⟨t, ht⟩ : ∃ t, de B L s = t := ⟨_, rfl⟩
                  have ht' : de B' L s = t := by rw [← de_cg hB (by omega)]; exact ht
                  have st : s ≤ t := by rw [← ht]; exact (de_sp B L s).1
                  have hv2 : vaD B' s t = vaD B s t := by rw [← ht]; exact (vaD_cg hB (by omega)).symm
                  rw [hs, hs', ht, ht', hv2]
                  have hdg := dg_cg hB (i := s) (by omega)
                  unfold dgA at hdg
                  by_cases c8 : ¬ (s < L ∧ 48 ≤ B s ∧ B s ≤ 57) ∨ 6 < t - s
                  · have c8' := c8
                    rw [hdg] at c8'
                    rw [if_pos c8, if_pos c8']; exact aO_bad (by decide)
                  · have c8' := c8
                    rw [hdg] at c8'
                    rw [if_neg c8, if_neg c8']
                    by_cases c9 : vaD B s t = 0
                    · rw [if_pos c9, if_pos c9]; exact aO_bad (by decide)
                    · rw [if_neg c9, if_neg c9]
                      exact PR_cg hB N _ _ _ _ _ _ _ _ (by omega) (by omega) (aC_uf hc)
                · have c7' : ¬ (f < L ∧ B' f = 47) := fun z => c7 ⟨z.1, by rw [hB f (by omega) z.1]; exact z.2⟩
                  rw [if_neg c7, if_neg c7']
                  exact PR_cg hB N _ _ _ _ _ _ _ _ (by omega) (by omega) (aC_uf hc)
        · rw [PR_bad hq c1 c2 c3, PR_bad hq' c1 (by omega) (by omega)]
          exact aO_bad (by decide)
    · rw [PR_end hq c1, PR_end hq' c1]
      by_cases c2 : 0 < k
      · rw [if_pos c2, if_pos c2]; exact aO_bad (by decide)
      · rw [if_neg c2, if_neg c2]
        by_cases c3 : r ≠ w
        · rw [if_pos c3, if_pos c3]; exact aO_bad (by decide)
        · rw [if_neg c3, if_neg c3]
          exact ⟨rfl, rfl, rfl, rfl, fun _ x y hx hy hz => hc x y hx hy (by dsimp only at hz; omega)⟩
/-- the whole text -/
theorem PR_al (hB : aB B B' L) (ab un ab' un' : Int → Int) : aO (PR B L 0 0 0 0 ab un) (PR B' L 0 0 0 0 ab' un') := PR_cg hB _ _ _ _ _ _ _ _ _ (Nat.lt_succ_self _) (by omega) (fun x y hx hy h => by omega)
end PRC
end
section
theorem gF_dv (σ : eS) : ∀ k : Nat, gF σ k ∣ σ 0 4 ∧ ∀ j : Nat, j < k → gF σ k ∣ σ 4 j
  | 0 => ⟨Int.dvd_refl _, fun j h => absurd h (by omega)⟩
  | k + 1 => by
    obtain ⟨h1, h2⟩ := gF_dv σ k
    refine ⟨Int.dvd_trans (Int.gcd_dvd_left _ _) h1, fun j h => ?_⟩
    rcases (by omega : j < k ∨ j = k) with q | q
    · exact Int.dvd_trans (Int.gcd_dvd_left _ _) (h2 j q)
    · rw [q]; exact Int.gcd_dvd_right _ _
def rdP (σ τ : eS) (x y : Int) : Prop := τ 6 (x * 8 + y) = rdA σ (x * 8 + y) ∧ τ 7 (x * 8 + y) = rdU σ (x * 8 + y)
def rdN (σ τ : eS) (x y : Int) : Prop := τ 6 (x * 8 + y) = σ 6 (x * 8 + y) ∧ τ 7 (x * 8 + y) = σ 7 (x * 8 + y)
/-- which fractions are in least terms -/
def dPN (σ τ : eS) (n i j : Int) : Prop := ∀ x y, 0 ≤ x → x < n → 0 ≤ y → y < n → ((x < i ∨ (x = i ∧ y < j)) → rdP σ τ x y) ∧ (¬ (x < i ∨ (x = i ∧ y < j)) → rdN σ τ x y)
theorem dPN_cg {σ τ τ' : eS} {n i j : Int} (h : dPN σ τ n i j) (h6 : ∀ k, τ' 6 k = τ 6 k) (h7 : ∀ k, τ' 7 k = τ 7 k) : dPN σ τ' n i j := by
  intro x y a b c d
  unfold rdP rdN
  rw [h6, h7]
  exact h x y a b c d
theorem dPN_s {σ τ : eS} {n i j : Int} (h : dPN σ τ n i j) (hn : n ≤ 8) (hi : 0 ≤ i ∧ i < n) (hj : 0 ≤ j ∧ j < n) : dPN σ (up (up τ 6 (8 * i + j) (τ 6 (8 * i + j) / (Int.gcd (τ 7 (8 * i + j)) (τ 6 (8 * i + j)) : Int))) 7 (8 * i + j) (τ 7 (8 * i + j) / (Int.gcd (τ 7 (8 * i + j)) (τ 6 (8 * i + j)) : Int))) n i (j + 1) := by
  have e : 8 * i + j = i * 8 + j := by omega
  rw [e]
  intro x y a b c d
  obtain ⟨h1, h2⟩ := h x y a b c d
  by_cases q : x = i ∧ y = j
  · obtain ⟨q1, q2⟩ := q
    subst q1; subst q2
    refine ⟨fun _ => ?_, fun z => absurd (Or.inr ⟨rfl, by omega⟩) z⟩
    obtain ⟨w1, w2⟩ := h2 (by omega)
    unfold rdP rdA rdU
    rw [up_same, up_ne _ _ _ _ (by decide), up_same, w1, w2]
    exact ⟨rfl, rfl⟩
  · have ne : x * 8 + y ≠ i * 8 + j := by omega
    unfold rdP rdN
    rw [up_ne _ _ _ _ (by decide), up_nk _ _ _ _ ne, up_nk _ _ _ _ ne, up_ne _ _ _ _ (by decide)]
    exact ⟨fun z => h1 (by omega), fun z => h2 (by omega)⟩
theorem dPN_r {σ τ : eS} {n i : Int} (h : dPN σ τ n i n) : dPN σ τ n (i + 1) 0 := fun x y a b c d => ⟨fun q => (h x y a b c d).1 (by omega), fun q => (h x y a b c d).2 (by omega)⟩
theorem rd_one {σ : eS} {k : Int} (h : uOk σ k) : 1 ≤ rdU σ k ∧ Int.gcd (rdU σ k) (rdA σ k) = 1 := by
  obtain ⟨u1, u2, u3, u4⟩ := h
  obtain ⟨g1, g2⟩ := gcd_pos (a := σ 7 k) (b := σ 6 k) (by omega)
  unfold rdU rdA
  exact ⟨(gcd_div u1 g1 g2).1, Int.gcd_ediv_gcd_ediv_gcd (by omega)⟩
theorem dm_n {k n : Int} (hn : 0 ≤ n) (h0 : 0 ≤ k) (h1 : k < n * n) : ∃ x y : Int, 0 ≤ x ∧ x < n ∧ 0 ≤ y ∧ y < n ∧ k = n * x + y := by
  have n0 : 0 < n := by
    rcases (by omega : n = 0 ∨ 0 < n) with q | q
    · rw [q] at h1; omega
    · exact q
  exact ⟨k / n, k % n, Int.ediv_nonneg h0 hn, Int.ediv_lt_of_lt_mul n0 h1, Int.emod_nonneg _ (by omega), Int.emod_lt_of_pos _ n0, (Int.mul_ediv_add_emod k n).symm⟩
theorem nx_lt {n x y i : Int} (hy : y < n) (hn : 0 ≤ n) (hx : x < i) : n * x + y < n * i := by
  have := Int.mul_le_mul_of_nonneg_left (by omega : x + 1 ≤ i) hn
  rw [Int.mul_add] at this
  omega
/-- all fractions over one number, exactly -/
def OV (σ : eS) (s : Int) (σ' : eS) (z : Int) : Prop := (z = 0 ∧ (cbC (rdU σ) (σ 0 18).toNat (σ 0 18).toNat = -1 ∨ ¬ cOk (rdA σ) (rdU σ) (cbC (rdU σ) (σ 0 18).toNat (σ 0 18).toNat) (σ 0 18)) ∧ ∀ k, σ' 1 k = σ 1 k ∧ σ' 2 k = σ 2 k ∧ σ' 3 k = σ 3 k) ∨ (z = 1 ∧ 1 ≤ cbC (rdU σ) (σ 0 18).toNat (σ 0 18).toNat ∧ cOk (rdA σ) (rdU σ) (cbC (rdU σ) (σ 0 18).toNat (σ 0 18).toNat) (σ 0 18) ∧ (∀ k, σ' 1 k = if k = s then σ 0 18 else σ 1 k) ∧ (∀ k, σ' 2 k = if k = s then (if σ 0 18 = 0 then 0 else cbC (rdU σ) (σ 0 18).toNat (σ 0 18).toNat) else σ 2 k) ∧ (∀ k, ¬ (64 * s ≤ k ∧ k < 64 * s + σ 0 18 * σ 0 18) → σ' 3 k = σ 3 k) ∧ ∀ i j, 0 ≤ i → i < σ 0 18 → 0 ≤ j → j < σ 0 18 → σ' 3 (64 * s + (σ 0 18 * i + j)) = rdA σ (i * 8 + j) * (cbC (rdU σ) (σ 0 18).toNat (σ 0 18).toNat / rdU σ (i * 8 + j)))
/-- behind the second loop -/
def frP (σ τ : eS) (n b : Int) : Prop := τ 0 4 = b ∧ (∀ x y, 0 ≤ x → x < n → 0 ≤ y → y < n → rdP σ τ x y) ∧ ∀ x y, 0 ≤ x → x < n → 0 ≤ y → y < n → τ 4 (n * x + y) = rdA σ (x * 8 + y) * (b / rdU σ (x * 8 + y))
theorem OV_tk {σ τ σ' : eS} {s n z b : Int} (en : n = σ 0 18) (hn : 0 ≤ n ∧ n ≤ 8) (hu : uRows σ n n) (hb : b = cbC (rdU σ) n.toNat n.toNat) (hb1 : 1 ≤ b) (hb2 : b ≤ 999999) (hf : ∀ k, τ 1 k = σ 1 k ∧ τ 2 k = σ 2 k ∧ τ 3 k = σ 3 k) (hP : frP σ τ n b) (hq : Qtk τ s n σ' z) : OV σ s σ' z := by
  obtain ⟨p1, p2, p3⟩ := hP
  have g1 : gF τ (n * n).toNat = 1 := by
    obtain ⟨d1, d2⟩ := gF_dv τ (n * n).toNat
    have gp := gF_bd (σ := τ) (by omega) (n * n).toNat
    refine lt_one (ab := rdA σ) hb hb1 gp.1 (by rw [← p1]; exact d1) (fun x y hx hy => ?_) (fun x y hx hy => ?_)
    · refine rd_one ?_
      have := hu x y (by omega) (by omega) (by omega) (by omega)
      rw [show (x : Int) * 8 + y = 8 * x + y by omega]; exact this
    · have h1 := nx_lt (n := n) (x := x) (y := y) (i := n) (by omega) (by omega) (by omega)
      have h0 : 0 ≤ n * (x : Int) := Int.mul_nonneg (by omega) (by omega)
      have := d2 (n * (x : Int) + y).toNat (by omega)
      rw [show (((n * (x : Int) + y).toNat : Nat) : Int) = n * x + y by omega, p3 x y (by omega) (by omega) (by omega) (by omega)] at this
      exact this
  have hft : fitT τ n ↔ cOk (rdA σ) (rdU σ) b n := by
    unfold fitT
    rw [g1, p1, Int.ediv_one]
    constructor
    · rintro ⟨-, q⟩ i j a b' c d
      have h1 := nx_lt (n := n) (x := i) (y := j) (i := n) d (by omega) b'
      have h0 : 0 ≤ n * i := Int.mul_nonneg (by omega) a
      have := q (n * i + j) (by omega) h1
      rw [Int.ediv_one, p3 i j a b' c d] at this
      exact this
    · intro q
      refine ⟨hb2, fun k a b' => ?_⟩
      obtain ⟨x, y, x1, x2, x3, x4, x5⟩ := dm_n hn.1 a b'
      rw [Int.ediv_one, x5, p3 x y x1 x2 x3 x4]
      exact q x y x1 x2 x3 x4
  rw [hb] at hb1
  unfold OV
  rw [← en]
  rcases hq with ⟨q1, q2, q3⟩ | ⟨q1, q2, q3⟩
  · rw [hft, hb] at q3
    exact Or.inl ⟨q1, Or.inr q3, fun k => by rw [q2]; exact hf k⟩
  · rw [hft, hb] at q3
    refine Or.inr ⟨q1, hb1, q3, fun k => ?_, fun k => ?_, fun k hk => ?_, fun i j a b' c d => ?_⟩
    · rw [q2]
      simp only [tw]
      simp
      split
      · rfl
      · exact (hf k).1
    · rw [q2, g1, p1, Int.ediv_one, hb]
      simp only [tw]
      simp
      split
      · rfl
      · exact (hf k).2.1
    · rw [q2]
      simp only [tw]
      rw [if_neg (by omega), if_neg (by omega), if_neg (by omega)]
      exact (hf k).2.2
    · have h1 := nx_lt (n := n) (x := i) (y := j) (i := n) d (by omega) b'
      have h0 : 0 ≤ n * i := Int.mul_nonneg (by omega) a
      rw [q2, g1]
      simp only [tw]
      rw [if_neg (by omega), if_neg (by omega), if_pos ⟨trivial, by omega, by omega⟩, Int.ediv_one, show 64 * s + (n * i + j) - 64 * s = n * i + j by omega, p3 i j a b' c d, hb]
theorem t_Mo_isOver {σ : eS} {s : Int} (hB : iB1 σ) (hs : 0 ≤ s ∧ s < 4) (hr : 0 ≤ σ 0 18 ∧ σ 0 18 ≤ 8) (hu : uRows σ (σ 0 18) (σ 0 18)) : MtI shB M_Mo_isOver [vr 0, vi s] σ (fun σ' z => QO σ σ' z ∧ OV σ s σ' z) := by
  refine Mt.of okM_Mo_isOver (Nat.le_of_ble_eq_true rfl) (fun hk hg => ?_)
  obtain ⟨n, en⟩ : ∃ x, x = σ 0 18 := ⟨_, rfl⟩
  rw [← en] at hr hu
  obtain ⟨un, eun⟩ : ∃ f, f = rdU σ := ⟨_, rfl⟩
  have hB' : ∀ τ : eS, fr (fun c k => (c = 0 ∧ k = 4) ∨ c = 4 ∨ c = 6 ∨ c = 7) σ τ → (∀ k, 0 ≤ k → k < 64 → 0 ≤ τ 4 k) → iB1 τ := fun τ f g => ⟨fun t a b => by rw [f 1 t (by omega), f 2 t (by omega)]; exact hB.1 t a b, fun k a b => by rw [f 3 k (by omega)]; exact hB.2.1 k a b, g⟩
  refine ok_aload_n 0 rfl rfl rfl (ok_lconst (w := 1) 1 rfl rfl rfl (by decide) (ok_putL 2 rfl rfl fl_X12_85 rfl rfl rfl rfl (ok_iconst 3 rfl rfl (by decide) (ok_ist2 4 rfl rfl rfl ?_))))
  refine lpO2 (fun (i : Int) (_ : eS) => [some (vr 0), some (vi s), some (vi i), none, none, none, none]) (fun _ τ => τ) (fun i τ => 0 ≤ i ∧ i ≤ n ∧ fr (fun c k => (c = 0 ∧ k = 4) ∨ c = 6 ∨ c = 7) σ τ ∧ 1 ≤ τ 0 4 ∧ τ 0 4 ≤ 999999 ∧ uRows τ n n ∧ dPN σ τ n i 0 ∧ τ 0 4 = cbC un n.toNat i.toNat) (fun i _ => (n - i).toNat) ?_ 0 _ ⟨by omega, by omega, fr_up fr.rf (by omega), by rw [up_same]; omega, by rw [up_same]; omega, fun i j a b c d => by unfold uOk; rw [up_ne _ _ _ _ (by decide), up_ne _ _ _ _ (by decide)]; exact hu i j a b c d, fun x y a b c d => ⟨fun q => by omega, fun q => by unfold rdN; rw [up_ne _ _ _ _ (by decide), up_ne _ _ _ _ (by decide)]; exact ⟨rfl, rfl⟩⟩, by rw [up_same]; rfl⟩
  rintro i τ ⟨i1, i2, i3, i4, i5, i6, i7, i8⟩ ih
  have e18 : τ 0 18 = n := by rw [i3 0 18 (by omega)]; exact en.symm
  refine ok_iload_n 5 rfl rfl rfl (ok_aload_n 6 rfl rfl rfl (ok_getI 7 rfl rfl fl_X12_167 rfl rfl (Or.inl rfl) (ok_icmp_ge 8 138 rfl rfl rfl (fun h12 => ?_) (fun h12 => ?_))))
  · refine ok_iconst 81 rfl rfl (by decide) (ok_ist2 82 rfl rfl rfl ?_)
    have hbb : τ 0 4 = cbC un n.toNat n.toNat := by rw [i8, show i = n by omega]
    have hpp : ∀ x y, 0 ≤ x → x < n → 0 ≤ y → y < n → rdP σ τ x y := fun x y a b c d => (i7 x y a b c d).1 (by omega)
    obtain ⟨b, eb⟩ : ∃ b, b = cbC un n.toNat n.toNat := ⟨_, rfl⟩
    rw [← eb] at hbb
    have hb1 : 1 ≤ b := by omega
    have hb2 : b ≤ 999999 := by omega
    refine lpO2 (fun (i : Int) (_ : eS) => [some (vr 0), some (vi s), some (vi i), none, none, none, none]) (fun _ τ => τ) (fun i τ => 0 ≤ i ∧ i ≤ n ∧ fr (fun c k => (c = 0 ∧ k = 4) ∨ c = 4 ∨ c = 6 ∨ c = 7) σ τ ∧ 1 ≤ τ 0 4 ∧ τ 0 4 ≤ 999999 ∧ uRows τ n n ∧ (∀ k, 0 ≤ k → k < 64 → 0 ≤ τ 4 k) ∧ τ 0 4 = b ∧ (∀ x y, 0 ≤ x → x < n → 0 ≤ y → y < n → rdP σ τ x y) ∧ ∀ x y, 0 ≤ x → x < i → 0 ≤ y → y < n → τ 4 (n * x + y) = rdA σ (x * 8 + y) * (b / rdU σ (x * 8 + y))) (fun i _ => (n - i).toNat) ?_ 0 τ ⟨by omega, by omega, i3.mono (fun c k q => by omega), i4, i5, i6, fun k a b => by rw [i3 4 k (by omega)]; exact hB.2.2 k a b, hbb, hpp, fun x y a b => by omega⟩
    clear hbb hpp i1 i2 i3 i4 i5 i6 i7 i8 e18 h12 ih i τ
    rintro i τ ⟨i1, i2, i3, i4, i5, i6, i7, i8, i9, i10⟩ ih
    have e18 : τ 0 18 = n := by rw [i3 0 18 (by omega)]; exact en.symm
    refine ok_iload_n 83 rfl rfl rfl (ok_aload_n 84 rfl rfl rfl (ok_getI 85 rfl rfl fl_X12_167 rfl rfl (Or.inl rfl) (ok_icmp_ge 86 213 rfl rfl rfl (fun h145 => ?_) (fun h145 => ?_))))
    · refine ok_aload_n 128 rfl rfl rfl (ok_iload_n 129 rfl rfl rfl (ok_aload_n 130 rfl rfl rfl (ok_getI 131 rfl rfl fl_X12_167 rfl rfl (Or.inl rfl) (ok_callVI (M' := M_Mo_takes) (as := [_, _]) 132 rfl rfl ml_X12_179 (s_Mo_takes hs (by omega) i4 (by rw [e18]; intro k a b; have := sq8 hr; exact i7 k a (by omega))) rfl rfl (Nat.le_of_ble_eq_true rfl) ⟨Nat.le_of_ble_eq_true rfl, Nat.le_of_ble_eq_true rfl⟩ rfl (Nat.le_of_ble_eq_true rfl) (fun σ' z hz => ?_)))))
      have f0 : fr rgO σ τ := i3.mono (fun c k q => by simp only [rgO]; omega)
      refine ok_zret 133 rfl rfl rfl (by rcases hz with q | q <;> omega) ?_
      refine ⟨_, rfl, ?_, OV_tk en hr hu (by rw [eb, eun]) hb1 hb2 (fun k => ⟨i3 1 k (by omega), i3 2 k (by omega), i3 3 k (by omega)⟩) ⟨i8, i9, fun x y a1 a2 a3 a4 => i10 x y a1 (by omega) a3 a4⟩ (by rw [e18] at hz; exact hz)⟩
      rcases hz with ⟨hz, rfl, -⟩ | ⟨hz, rfl, hft⟩
      · exact ⟨f0, hB' _ i3 i7, Or.inl hz⟩
      · refine ⟨f0.tr (fun c k q => ?_), ?_, Or.inr hz⟩
        · simp only [rgO] at q
          simp only [tw]
          rw [if_neg (by omega), if_neg (by omega), if_neg (by omega)]
        · rw [e18] at hft ⊢
          obtain ⟨gp, gl⟩ := gF_bd i4 (n * n).toNat
          refine tw_B (hB' _ i3 i7) hs hr (fun q => ?_) (fun k a b => ?_)
          · rw [if_neg (by omega)]
            exact ⟨(gcd_div i4 gp gl).1, hft.1⟩
          · exact ⟨Int.ediv_nonneg (i7 k a (by have := sq8 hr; omega)) (by omega), hft.2 k a b⟩
    · refine ok_iconst 87 rfl rfl (by decide) (ok_ist3 88 rfl rfl rfl ?_)
      refine lpO2 (fun (j : Int) (_ : eS) => [some (vr 0), some (vi s), some (vi i), some (vi j), none, none, none]) (fun _ τ => τ) (fun j τ => 0 ≤ j ∧ j ≤ n ∧ fr (fun c k => (c = 0 ∧ k = 4) ∨ c = 4 ∨ c = 6 ∨ c = 7) σ τ ∧ 1 ≤ τ 0 4 ∧ τ 0 4 ≤ 999999 ∧ uRows τ n n ∧ (∀ k, 0 ≤ k → k < 64 → 0 ≤ τ 4 k) ∧ τ 0 4 = b ∧ (∀ x y, 0 ≤ x → x < n → 0 ≤ y → y < n → rdP σ τ x y) ∧ (∀ x y, 0 ≤ x → x < i → 0 ≤ y → y < n → τ 4 (n * x + y) = rdA σ (x * 8 + y) * (b / rdU σ (x * 8 + y))) ∧ ∀ y, 0 ≤ y → y < j → τ 4 (n * i + y) = rdA σ (i * 8 + y) * (b / rdU σ (i * 8 + y))) (fun j _ => (n - j).toNat) ?_ 0 _ ⟨by omega, by omega, i3, i4, i5, i6, i7, i8, i9, i10, fun y a b => by omega⟩
      have hin : i < n := by omega
      clear i3 i4 i5 i6 i7 i8 i9 i10 e18
      rintro j τ ⟨j1, j2, i3, i4, i5, i6, i7, i8, i9, i10, i11⟩ ih2
      have e18 : τ 0 18 = n := by rw [i3 0 18 (by omega)]; exact en.symm
      refine ok_iload_n 89 rfl rfl rfl (ok_aload_n 90 rfl rfl rfl (ok_getI 91 rfl rfl fl_X12_167 rfl rfl (Or.inl rfl) (ok_icmp_ge 92 207 rfl rfl rfl (fun h155 => ?_) (fun h155 => ?_))))
      · refine ok_inc2 126 rfl rfl rfl (by first | omega | (simp [up_if]; omega) | (simp [up_if] at *; omega)) (ok_goto 127 140 rfl rfl rfl ?_)
        refine ok_fg [some (vr 0), some (vi s), some (vi (i + 1)), none, none, none, none] ⟨rfl, rfl, rfl, trivial⟩ (ih (i + 1) τ ⟨by omega, by omega, i3, i4, i5, i6, i7, i8, i9, fun x y a1 a2 a3 a4 => by
          rcases (by omega : x < i ∨ x = i) with q | q
          · exact i10 x y a1 q a3 a4
          · rw [q]; exact i11 y a3 (by omega)⟩ (by omega))
      · have uk := i6 i j (by omega) (by omega) (by omega) (by omega)
        obtain ⟨u1, u2, u3, u4⟩ := id uk
        obtain ⟨x1, x2, x3, x4⟩ := ix8 (n := n) (i := i) (j := j) hr ⟨by omega, by omega⟩ ⟨by omega, by omega⟩
        obtain ⟨d1, d2⟩ := div_bd (u := τ 0 4) (g := τ 7 (8 * i + j)) (B := 999999) ⟨by omega, by omega⟩ u1
        obtain ⟨d7, d8⟩ := mul_bd (a := τ 6 (8 * i + j)) (b := τ 0 4 / τ 7 (8 * i + j)) (A := 999999) (B := 999999) ⟨by omega, by omega⟩ ⟨by omega, by omega⟩
        refine ok_aload_n 93 rfl rfl rfl (ok_getR 94 rfl rfl fl_X12_19 rfl rfl (ok_aload_n 95 rfl rfl rfl (ok_getI 96 rfl rfl fl_X12_167 rfl rfl (Or.inl rfl) (ok_iload_n 97 rfl rfl rfl (ok_imul 98 rfl rfl (by rw [e18]; omega) (ok_iload_n 99 rfl rfl rfl (ok_iadd 100 rfl rfl (by rw [e18]; omega) (ok_aload_n 101 rfl rfl rfl (ok_getR 102 rfl rfl fl_X12_30 rfl rfl (ok_bipush 103 rfl rfl (by decide) (by decide) (ok_iload_n 104 rfl rfl rfl (ok_imul 105 rfl rfl (by first | omega | (simp [up_if]; omega) | (simp [up_if] at *; omega)) (ok_iload_n 106 rfl rfl rfl (ok_iadd 107 rfl rfl (by first | omega | (simp [up_if]; omega) | (simp [up_if] at *; omega)) (ok_iald 108 rfl rfl rfl (by first | omega | (simp [up_if]; omega) | (simp [up_if] at *; omega)) (ok_i2l 109 rfl rfl (ok_aload_n 110 rfl rfl rfl (ok_getL 111 rfl rfl fl_X12_85 rfl rfl (ok_aload_n 112 rfl rfl rfl (ok_getR 113 rfl rfl fl_X12_33 rfl rfl (ok_bipush 114 rfl rfl (by decide) (by decide) (ok_iload_n 115 rfl rfl rfl (ok_imul 116 rfl rfl (by first | omega | (simp [up_if]; omega) | (simp [up_if] at *; omega)) (ok_iload_n 117 rfl rfl rfl (ok_iadd 118 rfl rfl (by first | omega | (simp [up_if]; omega) | (simp [up_if] at *; omega)) (ok_iald 119 rfl rfl rfl (by first | omega | (simp [up_if]; omega) | (simp [up_if] at *; omega)) (ok_i2l 120 rfl rfl (ok_ldiv 121 rfl rfl (by first | omega | (simp [up_if]; omega) | (simp [up_if] at *; omega)) (by first | omega | (simp [up_if]; omega) | (simp [up_if] at *; omega)) (ok_lmul 122 rfl rfl (by first | omega | (simp [up_if]; omega) | (simp [up_if] at *; omega)) (ok_last 123 rfl rfl rfl (by rw [e18]; omega) (ok_inc3 124 rfl rfl rfl (by first | omega | (simp [up_if]; omega) | (simp [up_if] at *; omega)) (ok_goto 125 150 rfl rfl rfl ?_))))))))))))))))))))))))))))))))
        rw [e18]
        refine ih2 (j + 1) _ ⟨by omega, by omega, fr_up i3 (by simp), by rw [up_ne _ _ _ _ (by decide)]; omega, by rw [up_ne _ _ _ _ (by decide)]; omega, fun a b a1 a2 a3 a4 => ?_, ?_, by rw [up_ne _ _ _ _ (by decide)]; exact i8, fun x y a1 a2 a3 a4 => ?_, fun x y a1 a2 a3 a4 => ?_, fun y a1 a2 => ?_⟩ (by omega)
        · unfold uOk
          rw [up_ne _ _ _ _ (by decide), up_ne _ _ _ _ (by decide)]
          exact i6 a b a1 a2 a3 a4
        · intro k a b
          rw [up_if]
          split
          · exact d7
          · exact i7 k a (by omega)
        · unfold rdP
          rw [up_ne _ _ _ _ (by decide), up_ne _ _ _ _ (by decide)]
          exact i9 x y a1 a2 a3 a4
        · have := nx_lt (n := n) (x := x) (y := y) (i := i) a4 (by omega) a2
          rw [up_nk _ _ _ _ (by omega)]
          exact i10 x y a1 a2 a3 a4
        · rcases (by omega : y < j ∨ y = j) with q | q
          · rw [up_nk _ _ _ _ (by omega)]; exact i11 y a1 q
          · obtain ⟨w1, w2⟩ := i9 i j (by omega) (by omega) (by omega) (by omega)
            rw [q, up_same, show 8 * i + j = i * 8 + j by omega, w1, w2, i8]
  · refine ok_iconst 9 rfl rfl (by decide) (ok_ist3 10 rfl rfl rfl ?_)
    refine lpO2 (fun (j : Int) (_ : eS) => [some (vr 0), some (vi s), some (vi i), some (vi j), none, none, none]) (fun _ τ => τ) (fun j τ => 0 ≤ j ∧ j ≤ n ∧ fr (fun c k => (c = 0 ∧ k = 4) ∨ c = 6 ∨ c = 7) σ τ ∧ 1 ≤ τ 0 4 ∧ τ 0 4 ≤ 999999 ∧ uRows τ n n ∧ dPN σ τ n i j ∧ τ 0 4 = cbR un i (cbC un n.toNat i.toNat) j.toNat) (fun j _ => (n - j).toNat) ?_ 0 _ ⟨by omega, by omega, i3, i4, i5, i6, i7, i8⟩
    have hin : i < n := by omega
    clear i3 i4 i5 i6 i7 i8 e18
    rintro j τ ⟨j1, j2, i3, i4, i5, i6, i7, i8⟩ ih2
    have e18 : τ 0 18 = n := by rw [i3 0 18 (by omega)]; exact en.symm
    refine ok_iload_n 11 rfl rfl rfl (ok_aload_n 12 rfl rfl rfl (ok_getI 13 rfl rfl fl_X12_167 rfl rfl (Or.inl rfl) (ok_icmp_ge 14 132 rfl rfl rfl (fun h22 => ?_) (fun h22 => ?_))))
    · refine ok_inc2 79 rfl rfl rfl (by first | omega | (simp [up_if]; omega) | (simp [up_if] at *; omega)) (ok_goto 80 7 rfl rfl rfl ?_)
      exact ok_fg [some (vr 0), some (vi s), some (vi (i + 1)), none, none, none, none] ⟨rfl, rfl, rfl, trivial⟩ (ih (i + 1) τ ⟨by omega, by omega, i3, i4, i5, i6, dPN_r (by rw [show j = n by omega] at i7; exact i7), by rw [i8, cbC_s i1, show j = n by omega]⟩ (by omega))
    · have uk := i6 i j (by omega) (by omega) (by omega) (by omega)
      obtain ⟨u1, u2, u3, u4⟩ := id uk
      obtain ⟨g1, g2⟩ := gcd_pos (a := τ 7 (8 * i + j)) (b := τ 6 (8 * i + j)) (by omega)
      obtain ⟨d1, d2⟩ := div_bd (B := 999999) ⟨u3, u4⟩ g1
      obtain ⟨d3, d4⟩ := gcd_div u1 g1 g2
      refine ok_bipush 15 rfl rfl (by decide) (by decide) (ok_iload_n 16 rfl rfl rfl (ok_imul 17 rfl rfl (by first | omega | (simp [up_if]; omega) | (simp [up_if] at *; omega)) (ok_iload_n 18 rfl rfl rfl (ok_iadd 19 rfl rfl (by first | omega | (simp [up_if]; omega) | (simp [up_if] at *; omega)) (ok_ist4 20 rfl rfl rfl (ok_aload_n 21 rfl rfl rfl (ok_getR 22 rfl rfl fl_X12_33 rfl rfl (ok_iload 23 rfl rfl rfl (ok_iald 24 rfl rfl rfl (by first | omega | (simp [up_if]; omega) | (simp [up_if] at *; omega)) (ok_i2l 25 rfl rfl (ok_aload_n 26 rfl rfl rfl (ok_getR 27 rfl rfl fl_X12_30 rfl rfl (ok_iload 28 rfl rfl rfl (ok_iald 29 rfl rfl rfl (by first | omega | (simp [up_if]; omega) | (simp [up_if] at *; omega)) (ok_i2l 30 rfl rfl (ok_callSL (M' := M_Mo_common) (as := [_, _]) 31 rfl rfl ml_X12_89 (s_Mo_common (by omega) (by omega)) ⟨Nat.le_of_ble_eq_true rfl, Nat.le_of_ble_eq_true rfl⟩ rfl (Nat.le_of_ble_eq_true rfl) (fun σ' z hz => ?_)))))))))))))))))
      rw [hz.1, hz.2]
      clear hz z σ'
      refine ok_lst5 32 rfl rfl rfl (ok_aload_n 33 rfl rfl rfl (ok_getR 34 rfl rfl fl_X12_30 rfl rfl (ok_iload 35 rfl rfl rfl (ok_dup2 36 rfl rfl ⟨rfl, rfl⟩ (ok_iald 37 rfl rfl rfl (by first | omega | (simp [up_if]; omega) | (simp [up_if] at *; omega)) (ok_lload 38 rfl rfl rfl (ok_l2i 39 rfl rfl (by first | omega | (simp [up_if]; omega) | (simp [up_if] at *; omega)) (ok_idiv 40 rfl rfl (by omega) (by omega) (ok_iast 41 rfl rfl rfl (by first | omega | (simp [up_if]; omega) | (simp [up_if] at *; omega)) (ok_aload_n 42 rfl rfl rfl (ok_getR 43 rfl rfl fl_X12_33 rfl rfl (ok_iload 44 rfl rfl rfl (ok_dup2 45 rfl rfl ⟨rfl, rfl⟩ (ok_iald 46 rfl rfl rfl (by first | omega | (simp [up_if]; omega) | (simp [up_if] at *; omega)) (ok_lload 47 rfl rfl rfl (ok_l2i 48 rfl rfl (by first | omega | (simp [up_if]; omega) | (simp [up_if] at *; omega)) (ok_idiv 49 rfl rfl (by simp only [up_ne _ _ _ _ (show (7 : Nat) ≠ 6 by decide)]; omega) (by omega) (ok_iast 50 rfl rfl rfl (by first | omega | (simp [up_if]; omega) | (simp [up_if] at *; omega)) ?_))))))))))))))))))
      obtain ⟨ρ, er⟩ : ∃ x, x = up (up τ 6 (8 * i + j) (τ 6 (8 * i + j) / (Int.gcd (τ 7 (8 * i + j)) (τ 6 (8 * i + j)) : Int))) 7 (8 * i + j) (τ 7 (8 * i + j) / (Int.gcd (τ 7 (8 * i + j)) (τ 6 (8 * i + j)) : Int)) := ⟨_, rfl⟩
      have f1 : fr (fun c k => (c = 0 ∧ k = 4) ∨ c = 6 ∨ c = 7) σ ρ := by rw [er]; exact fr_up (fr_up i3 (by simp)) (by simp)
      have b4 : ρ 0 4 = τ 0 4 := by rw [er]; simp [up_if]
      have r18 : ρ 0 18 = n := by rw [f1 0 18 (by omega)]; exact en.symm
      have b7 : 1 ≤ ρ 7 (8 * i + j) ∧ ρ 7 (8 * i + j) ≤ 999999 := by rw [er]; simp [up_if]; omega
      have b8 : uRows ρ n n := by
        intro a b a1 a2 a3 a4
        have := i6 a b a1 a2 a3 a4
        by_cases q : 8 * a + b = 8 * i + j
        · rw [q, er]; unfold uOk; simp [up_if]; omega
        · rw [er]; unfold uOk; simp [up_if, q]; exact this
      have b9 : dPN σ ρ n i (j + 1) := by rw [er]; exact dPN_s i7 (by omega) ⟨by omega, by omega⟩ ⟨by omega, by omega⟩
      have b10 : ρ 7 (8 * i + j) = un (i * 8 + j) := by
        have := ((b9 i j (by omega) (by omega) (by omega) (by omega)).1 (by omega)).2
        rw [show 8 * i + j = i * 8 + j by omega, eun]; exact this
      have b11 : cbR un i (cbC un n.toNat i.toNat) (j + 1).toNat = lcS (ρ 0 4) (ρ 7 (8 * i + j)) 999999 := by rw [cbR_s j1, ← i8, b4, b10]
      unfold lcS at b11
      rw [if_neg (by omega)] at b11
      obtain ⟨g5, g6⟩ := gcd_pos (a := ρ 0 4) (b := ρ 7 (8 * i + j)) (by omega)
      obtain ⟨d5, d6⟩ := gcd_div (by omega : 1 ≤ ρ 0 4) g5 g6
      obtain ⟨d7, d8⟩ := mul_bd (a := ρ 0 4 / (Int.gcd (ρ 0 4) (ρ 7 (8 * i + j)) : Int)) (b := ρ 7 (8 * i + j)) (A := 999999) (B := 999999) ⟨by omega, by omega⟩ ⟨by omega, by omega⟩
      have d9 := Int.mul_pos (by omega : 0 < ρ 0 4 / (Int.gcd (ρ 0 4) (ρ 7 (8 * i + j)) : Int)) (by omega : 0 < ρ 7 (8 * i + j))
      simp only [up_ne _ _ _ _ (show (7 : Nat) ≠ 6 by decide)]
      rw [← er]
      refine ok_aload_n 51 rfl rfl rfl (ok_aload_n 52 rfl rfl rfl (ok_getL 53 rfl rfl fl_X12_85 rfl rfl (ok_aload_n 54 rfl rfl rfl (ok_getL 55 rfl rfl fl_X12_85 rfl rfl (ok_aload_n 56 rfl rfl rfl (ok_getR 57 rfl rfl fl_X12_33 rfl rfl (ok_iload 58 rfl rfl rfl (ok_iald 59 rfl rfl rfl (by first | omega | (simp [up_if]; omega) | (simp [up_if] at *; omega)) (ok_i2l 60 rfl rfl (ok_callSL (M' := M_Mo_common) (as := [_, _]) 61 rfl rfl ml_X12_89 (s_Mo_common (by omega) (by omega)) ⟨Nat.le_of_ble_eq_true rfl, Nat.le_of_ble_eq_true rfl⟩ rfl (Nat.le_of_ble_eq_true rfl) (fun σ' z hz => ?_)))))))))))
      rw [hz.1, hz.2]
      clear hz z σ'
      refine ok_ldiv 62 rfl rfl (by first | omega | (simp [up_if]; omega) | (simp [up_if] at *; omega)) (by first | omega | (simp [up_if]; omega) | (simp [up_if] at *; omega)) (ok_aload_n 63 rfl rfl rfl (ok_getR 64 rfl rfl fl_X12_33 rfl rfl (ok_iload 65 rfl rfl rfl (ok_iald 66 rfl rfl rfl (by first | omega | (simp [up_if]; omega) | (simp [up_if] at *; omega)) (ok_i2l 67 rfl rfl (ok_lmul 68 rfl rfl (by first | omega | (simp [up_if]; omega) | (simp [up_if] at *; omega)) (ok_putL 69 rfl rfl fl_X12_85 rfl rfl rfl rfl (ok_aload_n 70 rfl rfl rfl (ok_getL 71 rfl rfl fl_X12_85 rfl rfl (ok_ldc2 72 (999999) rfl rfl kc_X12_93 (by decide) (ok_lcmp_le 73 74 126 rfl rfl rfl rfl rfl (fun h120 => ?_) (fun h120 => ?_))))))))))))
      · refine ok_inc3 77 rfl rfl rfl (by first | omega | (simp [up_if]; omega) | (simp [up_if] at *; omega)) (ok_goto 78 17 rfl rfl rfl ?_)
        rw [up_same] at h120
        refine ok_fg [some (vr 0), some (vi s), some (vi i), some (vi (j + 1)), none, none, none] ⟨rfl, rfl, rfl, rfl, trivial⟩ (ih2 (j + 1) _ ⟨by omega, by omega, fr_up f1 (by omega), by rw [up_same]; omega, by rw [up_same]; omega, fun a b a1 a2 a3 a4 => ?_, dPN_cg b9 (fun k => up_ne _ _ _ _ (by decide)) (fun k => up_ne _ _ _ _ (by decide)), by rw [up_same, b11, if_neg (by omega)]⟩ (by omega))
        unfold uOk
        rw [up_ne _ _ _ _ (by decide), up_ne _ _ _ _ (by decide)]
        exact b8 a b a1 a2 a3 a4
      · refine ok_iconst 75 rfl rfl (by decide) (ok_zret 76 rfl rfl rfl (by first | omega | (simp [up_if]; omega) | (simp [up_if] at *; omega)) ?_)
        rw [up_same] at h120
        have nb : cbC un n.toNat n.toNat = -1 := by
          refine cbC_neg (i := (i + 1).toNat) (by omega) ?_
          rw [cbC_s i1]
          refine cbR_neg (j := (j + 1).toNat) (by omega) ?_
          rw [b11, if_pos (by omega)]
        exact ⟨_, rfl, ⟨fr_up (f1.mono (fun c k q => by simp only [rgO]; omega)) (by simp [rgO]), hB' _ (fr_up (f1.mono (fun c k q => by omega)) (by omega)) (fun k a b => by rw [up_ne _ _ _ _ (by decide), f1 4 k (by omega)]; exact hB.2.2 k a b), Or.inl rfl⟩, Or.inl ⟨rfl, Or.inl (by rw [← en, ← eun]; exact nb), fun k => by rw [up_ne _ _ _ _ (by decide), up_ne _ _ _ _ (by decide), up_ne _ _ _ _ (by decide), f1 1 k (by omega), f1 2 k (by omega), f1 3 k (by omega)]; exact ⟨rfl, rfl, rfl⟩⟩⟩
end
section
def oN (R : oA) : Int := R.2.2.1
def oW (R : oA) : Int := R.2.2.2.1
def oAb (R : oA) : Int → Int := R.2.2.2.2.1
def oUn (R : oA) : Int → Int := R.2.2.2.2.2
def oB (R : oA) : Int := cbC (oUn R) (oN R).toNat (oN R).toNat
def oG (R : oA) : Prop := 1 ≤ oB R ∧ cOk (oAb R) (oUn R) (oB R) (oN R)
def oS (R : oA) : Prop := R.1 = 0 → oN R = oW R
/-- what a reading of a text answers: answer, fault, place -/
def tbO (R : oA) (L z f p : Int) : Prop := (R.1 ≠ 0 ∧ z = -1 ∧ f = R.1 ∧ p = R.2.1) ∨ (R.1 = 0 ∧ ¬ oG R ∧ z = -1 ∧ f = 6 ∧ p = L) ∨ (R.1 = 0 ∧ oG R ∧ z = oN R ∧ f = 0 ∧ p = -1)
theorem oG_cg {R R' : oA} (h : aO R R') (hs : oS R) (h0 : R.1 = 0) : oN R = oN R' ∧ oB R = oB R' ∧ (oG R ↔ oG R') ∧ ∀ i j, 0 ≤ i → i < oN R → 0 ≤ j → j < oN R → oAb R (i * 8 + j) = oAb R' (i * 8 + j) ∧ oUn R (i * 8 + j) = oUn R' (i * 8 + j) := by
  obtain ⟨h1, h2, h3, h4, h5⟩ := h
  have c := h5 h0
  have s := hs h0
  have e : ∀ i j, 0 ≤ i → i < oN R → 0 ≤ j → j < oN R → oAb R (i * 8 + j) = oAb R' (i * 8 + j) ∧ oUn R (i * 8 + j) = oUn R' (i * 8 + j) := fun i j a b d f => c i j a d (Or.inl ⟨b, by unfold oN oW at *; omega⟩)
  have hn : oN R = oN R' := h3
  have hb : oB R = oB R' := by
    unfold oB
    rw [← hn]
    exact cbC_cg (fun x y a b => (e x y (by omega) (by omega) (by omega) (by omega)).2)
  refine ⟨hn, hb, ?_, e⟩
  unfold oG cOk
  rw [← hn, ← hb]
  refine and_congr Iff.rfl ⟨fun q i j a b d f => ?_, fun q i j a b d f => ?_⟩
  · rw [← (e i j a b d f).1, ← (e i j a b d f).2]; exact q i j a b d f
  · rw [(e i j a b d f).1, (e i j a b d f).2]; exact q i j a b d f
theorem tbO_un {R R' : oA} {L z f p z' f' p' : Int} (h : aO R R') (hs : oS R) (a : tbO R L z f p) (b : tbO R' L z' f' p') : z = z' ∧ f = f' ∧ p = p' := by
  have h1 := h.1
  have h2 := h.2.1
  by_cases h0 : R.1 = 0
  · obtain ⟨c1, c2, c3, c4⟩ := oG_cg h hs h0
    rcases a with a | a | a <;> rcases b with b | b | b
    · omega
    · omega
    · omega
    · omega
    · omega
    · exact absurd (c3.mpr b.2.1) a.2.1
    · omega
    · exact absurd (c3.mp a.2.1) b.2.1
    · omega
  · rcases a with a | a | a <;> rcases b with b | b | b <;> omega
def RB (σ : eS) : oA := PR (σ 5) (σ 0 6) 0 0 0 0 (rdA σ) (rdU σ)
def TBt (σ σ' : eS) (s : Int) : Prop := (∀ k, σ' 1 k = if k = s then oN (RB σ) else σ 1 k) ∧ (∀ k, σ' 2 k = if k = s then (if oN (RB σ) = 0 then 0 else oB (RB σ)) else σ 2 k) ∧ (∀ k, ¬ (64 * s ≤ k ∧ k < 64 * s + oN (RB σ) * oN (RB σ)) → σ' 3 k = σ 3 k) ∧ ∀ i j, 0 ≤ i → i < oN (RB σ) → 0 ≤ j → j < oN (RB σ) → σ' 3 (64 * s + (oN (RB σ) * i + j)) = oAb (RB σ) (i * 8 + j) * (oB (RB σ) / oUn (RB σ) (i * 8 + j))
def tbK (σ σ' : eS) : Prop := ∀ k, σ' 1 k = σ 1 k ∧ σ' 2 k = σ 2 k ∧ σ' 3 k = σ 3 k
/-- what `table` does, of the reference -/
def TB (σ : eS) (s : Int) (σ' : eS) (z : Int) : Prop := (¬ (0 ≤ s ∧ s < 4) ∧ z = -2 ∧ σ' 0 7 = 0 ∧ σ' 0 8 = -1 ∧ tbK σ σ') ∨ ((0 ≤ s ∧ s < 4) ∧ tbO (RB σ) (σ 0 6) z (σ' 0 7) (σ' 0 8) ∧ ((σ' 0 7 ≠ 0 ∧ tbK σ σ') ∨ (σ' 0 7 = 0 ∧ TBt σ σ' s)))
theorem tbK.tr {σ τ υ : eS} (a : tbK σ τ) (b : tbK τ υ) : tbK σ υ := fun k => ⟨(b k).1.trans (a k).1, (b k).2.1.trans (a k).2.1, (b k).2.2.trans (a k).2.2⟩
theorem tbK.of {σ τ : eS} {P : Nat → Int → Prop} (f : fr P σ τ) (h : ∀ k, ¬ P 1 k ∧ ¬ P 2 k ∧ ¬ P 3 k) : tbK σ τ := fun k => ⟨f 1 k (h k).1, f 2 k (h k).2.1, f 3 k (h k).2.2⟩
/-- the state ahead of the end: fault, or all read -/
def TE (σ τ : eS) : Prop := tbK σ τ ∧ τ 0 6 = σ 0 6 ∧ ((τ 0 9 ≠ 0 ∧ (RB σ).1 = τ 0 9 ∧ (RB σ).2.1 = τ 0 10) ∨ (τ 0 9 = 0 ∧ τ 0 10 = -1 ∧ RR τ ∧ Pz τ ∧ τ 0 11 = 0 ∧ TK τ ∧ PB τ 0 = RB σ))
theorem t_Mo_table {σ : eS} {s : Int} (hB : iB1 σ) (h6 : 0 ≤ σ 0 6 ∧ σ 0 6 ≤ 600) (hby : byt σ) : MtI shB M_Mo_table [vr 0, vi s] σ (fun σ' z => QT σ σ' z ∧ TB σ s σ' z) := by
  refine Mt.of okM_Mo_table (Nat.le_of_ble_eq_true rfl) (fun hk hg => ?_)
  have tail : ∀ (τ : eS) (b : Int) (x : Option eV), fr rgT σ τ → iB1 τ → (∀ (σ' : eS) (z : Int), σ' 0 7 = τ 0 9 → σ' 0 8 = τ 0 10 → tbK τ σ' → z = (if b = 0 then -2 else if τ 0 9 ≠ 0 then -1 else τ 0 18) → TB σ s σ' z) → Ok shB M_Mo_table 132 [some (vr 0), some (vi s), some (vi b), x] [] τ (fun σ' v => ∃ z, v = some (vi z) ∧ QT σ σ' z ∧ TB σ s σ' z) := by
    intro τ b x f hb hp
    refine ok_aload_n 69 rfl rfl rfl (ok_iconst 70 rfl rfl (by decide) (ok_putI 71 rfl rfl fl_X12_125 rfl rfl rfl rfl (ok_aload_n 72 rfl rfl rfl (ok_aload_n 73 rfl rfl rfl (ok_getI 74 rfl rfl fl_X12_154 rfl rfl (Or.inl rfl) (ok_putI 75 rfl rfl fl_X12_189 rfl rfl rfl rfl (ok_aload_n 76 rfl rfl rfl (ok_aload_n 77 rfl rfl rfl (ok_getI 78 rfl rfl fl_X12_157 rfl rfl (Or.inl rfl) (ok_putI 79 rfl rfl fl_X12_26 rfl rfl rfl rfl (ok_iload_n 80 rfl rfl rfl (ok_if_ne 81 162 rfl rfl rfl (fun h154 => ?_) (fun h154 => ?_)))))))))))))
    · refine ok_aload_n 84 rfl rfl rfl (ok_getI 85 rfl rfl fl_X12_154 rfl rfl (Or.inl rfl) (ok_if_eq 86 173 rfl rfl rfl (fun h166 => ?_) (fun h166 => ?_)))
      · refine ok_aload_n 89 rfl rfl rfl (ok_getI 90 rfl rfl fl_X12_167 rfl rfl (Or.inl rfl) (ok_iret 91 rfl rfl rfl ?_))
        refine ⟨_, rfl, ⟨fr_up (fr_up (fr_up f (by simp [rgT])) (by simp [rgT])) (by simp [rgT]), hb.fr (fun c k q => by rw [up_ne _ _ _ _ (by omega), up_ne _ _ _ _ (by omega), up_ne _ _ _ _ (by omega)]), by simp [up_if]⟩, hp _ _ (by simp [up_if]) (by simp [up_if]) (fun k => by simp [up_if]) ?_⟩
        first | exact (if_pos h154).symm | (rw [if_neg h154]; simp_all [up_if])
      · refine ok_iconst 87 rfl rfl (by decide) (ok_goto 88 177 rfl rfl rfl (ok_iret 91 rfl rfl rfl ?_))
        refine ⟨_, rfl, ⟨fr_up (fr_up (fr_up f (by simp [rgT])) (by simp [rgT])) (by simp [rgT]), hb.fr (fun c k q => by rw [up_ne _ _ _ _ (by omega), up_ne _ _ _ _ (by omega), up_ne _ _ _ _ (by omega)]), by simp [up_if]⟩, hp _ _ (by simp [up_if]) (by simp [up_if]) (fun k => by simp [up_if]) ?_⟩
        first | exact (if_pos h154).symm | (rw [if_neg h154]; simp_all [up_if])
    · refine ok_bipush 82 rfl rfl (by decide) (by decide) (ok_goto 83 177 rfl rfl rfl (ok_iret 91 rfl rfl rfl ?_))
      refine ⟨_, rfl, ⟨fr_up (fr_up (fr_up f (by simp [rgT])) (by simp [rgT])) (by simp [rgT]), hb.fr (fun c k q => by rw [up_ne _ _ _ _ (by omega), up_ne _ _ _ _ (by omega), up_ne _ _ _ _ (by omega)]), by simp [up_if]⟩, hp _ _ (by simp [up_if]) (by simp [up_if]) (fun k => by simp [up_if]) ?_⟩
      first | exact (if_pos h154).symm | (rw [if_neg h154]; simp_all [up_if])
  obtain ⟨τ0, e0⟩ : ∃ x, x = up (up (up (up (up σ 0 18 0) 0 19 0) 0 13 0) 0 9 0) 0 10 (-1) := ⟨_, rfl⟩
  have f00 : fr (fun c k => c = 0 ∧ (k = 9 ∨ k = 10 ∨ k = 13 ∨ k = 18 ∨ k = 19)) σ τ0 := by rw [e0]; exact fr_up (fr_up (fr_up (fr_up (fr_up fr.rf (by simp)) (by simp)) (by simp)) (by simp)) (by simp)
  have f0 : fr rgT σ τ0 := f00.mono (fun c k q => by simp only [rgT]; omega)
  have b0 : iB1 τ0 := hB.fr (fun c k q => by rw [e0]; simp only [up_if]; repeat rw [if_neg (by omega)])
  have a18 : τ0 0 18 = 0 := by rw [e0]; simp [up_if]
  have a19 : τ0 0 19 = 0 := by rw [e0]; simp [up_if]
  have a13 : τ0 0 13 = 0 := by rw [e0]; simp [up_if]
  have a9 : τ0 0 9 = 0 := by rw [e0]; simp [up_if]
  have a10 : τ0 0 10 = -1 := by rw [e0]; simp [up_if]
  have a6 : τ0 0 6 = σ 0 6 := by rw [e0]; simp [up_if]
  have a5 : τ0 5 = σ 5 := by funext j; exact f00 5 j (by omega)
  have aA : rdA τ0 = rdA σ := by funext j; unfold rdA; rw [f00 6 j (by omega), f00 7 j (by omega)]
  have aU : rdU τ0 = rdU σ := by funext j; unfold rdU; rw [f00 6 j (by omega), f00 7 j (by omega)]
  have by0 : ∀ k : Int, 0 ≤ k → k < τ0 0 6 → 0 ≤ τ0 5 k := by rw [a5, a6]; exact hby
  have p0 : P0 τ0 := ⟨by omega, by omega, by omega⟩
  have start : ∀ (τ1 : eS), lex τ0 τ1 ∧ LX τ0 τ1 → fr rgT σ τ1 ∧ iB1 τ1 ∧ Pz τ1 ∧ τ1 0 9 = 0 ∧ RR τ1 ∧ τ1 0 10 = -1 ∧ TK τ1 ∧ PB τ1 0 = RB σ ∧ tbK σ τ1 ∧ byt τ1 := fun τ1 hl0 => by
    obtain ⟨hl, hx⟩ := hl0
    obtain ⟨T1, i12, i5, i6⟩ := TK_of hl hx
    have k0 : tbK σ τ0 := tbK.of f00 (fun k => by omega)
    refine ⟨f0.tr (hl.1.mono (fun c k q => by simp only [rgT]; omega)), b0.fr (fun c k q => hl.1 c k (by omega)), Pz.of p0 hl, by rw [hl.1 0 9 (by omega)]; exact a9, ⟨by rw [hl.1 0 18 (by omega)]; omega, by rw [hl.1 0 18 (by omega)]; omega, by rw [hl.1 0 19 (by omega)]; omega, by rw [hl.1 0 19 (by omega)]; omega, fun i j q1 q2 q3 q4 => by rw [hl.1 0 18 (by omega)] at q2; omega⟩, by rw [hl.1 0 10 (by omega)]; exact a10, T1, ?_, k0.tr (tbK.of hl.1 (fun k => by omega)), by unfold byt; rw [i5, i6]; exact by0⟩
    have rA : rdA τ1 = rdA σ := by rw [← aA]; funext j; unfold rdA; rw [hl.1 6 j (by omega), hl.1 7 j (by omega)]
    have rU : rdU τ1 = rdU σ := by rw [← aU]; funext j; unfold rdU; rw [hl.1 6 j (by omega), hl.1 7 j (by omega)]
    unfold PB RB
    rw [rA, rU, i5, i6, a5, a6, i12, a5, a6, a13, hl.1 0 18 (by omega), hl.1 0 19 (by omega), a18, a19]
    exact PR_sk sk_id
  by_cases hs : 0 ≤ s ∧ s < 4
  · have after : ∀ (τ : eS), fr rgT σ τ → iB1 τ → TE σ τ → Ok shB M_Mo_table 78 [some (vr 0), some (vi s), some (vi 1), some (vi 0)] [] τ (fun σ' v => ∃ z, v = some (vi z) ∧ QT σ σ' z ∧ TB σ s σ' z) := by
      intro τ f hb hx
      obtain ⟨tk, e6, hx⟩ := hx
      have ended : τ 0 9 = 0 → RR τ ∧ τ 0 12 = σ 0 6 ∧ RB σ = (if τ 0 18 ≠ τ 0 19 then (5, σ 0 6, τ 0 18, τ 0 19, rdA τ, rdU τ) else (0, -1, τ 0 18, τ 0 19, rdA τ, rdU τ)) ∧ τ 0 10 = -1 := fun q => by
        rcases hx with w | ⟨w1, w2, w3, w4, w5, w6, w7⟩
        · exact absurd q w.1
        · obtain ⟨x1, x2⟩ := w6
          rcases x2 with ⟨y1, y2, y3⟩ | ⟨y1, y2, y3, y4⟩ | ⟨y1, y2, y3, y4, y5⟩
          · refine ⟨w3, by have := w4.2.1; have := w4.2.2.1; omega, ?_, w2⟩
            rw [← w7, ← e6]
            unfold PB
            rw [PR_end x1 y1, if_neg (by omega)]
          · omega
          · omega
      have faulted : τ 0 9 ≠ 0 → ∀ (σ' : eS) (z : Int), σ' 0 7 = τ 0 9 → σ' 0 8 = τ 0 10 → tbK τ σ' → z = (if (1 : Int) = 0 then -2 else if τ 0 9 ≠ 0 then -1 else τ 0 18) → TB σ s σ' z := fun q σ' z c1 c2 c3 c4 => by
        rcases hx with ⟨w1, w2, w3⟩ | w
        · rw [if_neg (by decide), if_pos q] at c4
          exact Or.inr ⟨hs, Or.inl ⟨by omega, c4, by omega, by omega⟩, Or.inl ⟨by omega, tk.tr c3⟩⟩
        · exact absurd w.1 q
      refine ok_iload_n 42 rfl rfl rfl (ok_if_eq 43 106 rfl rfl rfl (fun h79 => ?_) (fun h79 => ?_))
      · omega
      · refine ok_aload_n 44 rfl rfl rfl (ok_getI 45 rfl rfl fl_X12_154 rfl rfl (Or.inl rfl) (ok_if_ne 46 106 rfl rfl rfl (fun h86 => ?_) (fun h86 => ?_)))
        · refine ok_iload_n 56 rfl rfl rfl (ok_if_eq 57 132 rfl rfl rfl (fun h107 => ?_) (fun h107 => ?_))
          · omega
          · refine ok_aload_n 58 rfl rfl rfl (ok_getI 59 rfl rfl fl_X12_154 rfl rfl (Or.inl rfl) (ok_if_ne 60 132 rfl rfl rfl (fun h114 => ?_) (fun h114 => ?_)))
            · exact tail _ _ _ f hb (faulted (by omega))
            · obtain ⟨hrr, n1, n2, n3⟩ := ended (by omega)
              have hw : τ 0 18 = τ 0 19 := by omega
              rw [if_neg (by omega)] at n2
              refine ok_aload_n 61 rfl rfl rfl (ok_iload_n 62 rfl rfl rfl (ok_callVI (M' := M_Mo_isOver) (as := [_]) 63 rfl rfl ml_X12_186 (t_Mo_isOver hb hs ⟨hrr.1, hrr.2.1⟩ (by have := hrr.2.2.2.2; rw [← hw] at this; exact this)) rfl rfl (Nat.le_of_ble_eq_true rfl) ⟨Nat.le_of_ble_eq_true rfl, Nat.le_of_ble_eq_true rfl⟩ rfl (Nat.le_of_ble_eq_true rfl) (fun τ1 z hz => ?_)))
              obtain ⟨⟨q1, q2, q3⟩, q4⟩ := hz
              have g1 : fr rgT σ τ1 := f.tr (q1.mono (fun c k q => by simp only [rgO] at q; simp only [rgT]; omega))
              have hb1 := q2
              have j9 : τ1 0 9 = 0 := by rw [q1 0 9 (by simp [rgO])]; omega
              have j10 : τ1 0 10 = -1 := by rw [q1 0 10 (by simp [rgO])]; omega
              have j12 : τ1 0 12 = σ 0 6 := by rw [q1 0 12 (by simp [rgO])]; omega
              have j18 : τ1 0 18 = τ 0 18 := q1 0 18 (by simp [rgO])
              have nG : oG (RB σ) ↔ (1 ≤ cbC (rdU τ) (τ 0 18).toNat (τ 0 18).toNat ∧ cOk (rdA τ) (rdU τ) (cbC (rdU τ) (τ 0 18).toNat (τ 0 18).toNat) (τ 0 18)) := by rw [n2]; exact Iff.rfl
              have hT0 : z ≠ 0 → ∀ (σ'' : eS) (z3 : Int), σ'' 0 7 = τ1 0 9 → σ'' 0 8 = τ1 0 10 → tbK τ1 σ'' → z3 = (if (1 : Int) = 0 then -2 else if τ1 0 9 ≠ 0 then -1 else τ1 0 18) → TB σ s σ'' z3 := fun hz1 σ'' z3 c1 c2 c3 c4 => by
                rw [if_neg (by decide), if_neg (by omega)] at c4
                rcases q4 with ⟨u, -⟩ | ⟨-, u1, u2, u3, u4, u5, u6⟩
                · omega
                · refine Or.inr ⟨hs, Or.inr (Or.inr ⟨by rw [n2], nG.mpr ⟨u1, u2⟩, by rw [c4, j18, n2]; rfl, by omega, by omega⟩), Or.inr ⟨by omega, fun k => ?_, fun k => ?_, fun k hk => ?_, fun i j a b c d => ?_⟩⟩
                  · rw [(c3 k).1, u3 k, n2, (tk k).1]; rfl
                  · rw [(c3 k).2.1, u4 k, n2, (tk k).2.1]; rfl
                  · rw [n2] at hk
                    rw [(c3 k).2.2, u5 k hk, (tk k).2.2]
                  · rw [n2] at b d ⊢
                    exact (c3 _).2.2.trans (u6 i j a b c d)
              refine ok_if_ne 64 132 rfl rfl rfl (fun h122 => ?_) (fun h122 => ?_)
              · first | exact tail _ _ _ g2 hb2 hT6 | exact tail _ _ _ g1 hb1 (hT0 (by omega))
              · refine ok_aload_n 65 rfl rfl rfl (ok_bipush 66 rfl rfl (by decide) (by decide) (ok_callVI (M' := M_Mo_fails) (as := [_]) 67 rfl rfl ml_X12_164 (t_Mo_fails j9) rfl rfl (Nat.le_of_ble_eq_true rfl) ⟨Nat.le_of_ble_eq_true rfl, Nat.le_of_ble_eq_true rfl⟩ rfl (Nat.le_of_ble_eq_true rfl) (fun σ' z2 hz0 => ?_)))
                obtain ⟨⟨-, y1, y2⟩, y3, y4⟩ := fl_of (by decide) hz0
                have g2 : fr rgT σ σ' := g1.tr (y1.mono (fun c k q => by simp only [rgT]; omega))
                have hb2 : iB1 σ' := hb1.fr (fun c k q => y1 c k (by omega))
                have hT6 : ∀ (σ'' : eS) (z3 : Int), σ'' 0 7 = σ' 0 9 → σ'' 0 8 = σ' 0 10 → tbK σ' σ'' → z3 = (if (1 : Int) = 0 then -2 else if σ' 0 9 ≠ 0 then -1 else σ' 0 18) → TB σ s σ'' z3 := fun σ'' z3 c1 c2 c3 c4 => by
                  rw [if_neg (by decide), if_pos y2] at c4
                  rcases q4 with ⟨-, u1, u2⟩ | ⟨u, -⟩
                  · refine Or.inr ⟨hs, Or.inr (Or.inl ⟨by rw [n2], fun q => ?_, c4, by omega, by omega⟩), Or.inl ⟨by omega, ((tk.tr u2).tr (tbK.of y1 (fun k => by omega))).tr c3⟩⟩
                    rw [nG] at q
                    rcases u1 with u1 | u1
                    · have := q.1; omega
                    · exact u1 q.2
                  · omega
                refine ok_pop 68 rfl rfl rfl ?_
                first | exact tail _ _ _ g2 hb2 hT6 | exact tail _ _ _ g1 hb1 (hT0 (by omega))
        · refine ok_aload_n 47 rfl rfl rfl (ok_getI 48 rfl rfl fl_X12_167 rfl rfl (Or.inl rfl) (ok_aload_n 49 rfl rfl rfl (ok_getI 50 rfl rfl fl_X12_170 rfl rfl (Or.inl rfl) (ok_icmp_eq 51 106 rfl rfl rfl (fun h97 => ?_) (fun h97 => ?_)))))
          · refine ok_iload_n 56 rfl rfl rfl (ok_if_eq 57 132 rfl rfl rfl (fun h107 => ?_) (fun h107 => ?_))
            · omega
            · refine ok_aload_n 58 rfl rfl rfl (ok_getI 59 rfl rfl fl_X12_154 rfl rfl (Or.inl rfl) (ok_if_ne 60 132 rfl rfl rfl (fun h114 => ?_) (fun h114 => ?_)))
              · exact tail _ _ _ f hb (faulted (by omega))
              · obtain ⟨hrr, n1, n2, n3⟩ := ended (by omega)
                have hw : τ 0 18 = τ 0 19 := by omega
                rw [if_neg (by omega)] at n2
                refine ok_aload_n 61 rfl rfl rfl (ok_iload_n 62 rfl rfl rfl (ok_callVI (M' := M_Mo_isOver) (as := [_]) 63 rfl rfl ml_X12_186 (t_Mo_isOver hb hs ⟨hrr.1, hrr.2.1⟩ (by have := hrr.2.2.2.2; rw [← hw] at this; exact this)) rfl rfl (Nat.le_of_ble_eq_true rfl) ⟨Nat.le_of_ble_eq_true rfl, Nat.le_of_ble_eq_true rfl⟩ rfl (Nat.le_of_ble_eq_true rfl) (fun τ1 z hz => ?_)))
                obtain ⟨⟨q1, q2, q3⟩, q4⟩ := hz
                have g1 : fr rgT σ τ1 := f.tr (q1.mono (fun c k q => by simp only [rgO] at q; simp only [rgT]; omega))
                have hb1 := q2
                have j9 : τ1 0 9 = 0 := by rw [q1 0 9 (by simp [rgO])]; omega
                have j10 : τ1 0 10 = -1 := by rw [q1 0 10 (by simp [rgO])]; omega
                have j12 : τ1 0 12 = σ 0 6 := by rw [q1 0 12 (by simp [rgO])]; omega
                have j18 : τ1 0 18 = τ 0 18 := q1 0 18 (by simp [rgO])
                have nG : oG (RB σ) ↔ (1 ≤ cbC (rdU τ) (τ 0 18).toNat (τ 0 18).toNat ∧ cOk (rdA τ) (rdU τ) (cbC (rdU τ) (τ 0 18).toNat (τ 0 18).toNat) (τ 0 18)) := by rw [n2]; exact Iff.rfl
                have hT0 : z ≠ 0 → ∀ (σ'' : eS) (z3 : Int), σ'' 0 7 = τ1 0 9 → σ'' 0 8 = τ1 0 10 → tbK τ1 σ'' → z3 = (if (1 : Int) = 0 then -2 else if τ1 0 9 ≠ 0 then -1 else τ1 0 18) → TB σ s σ'' z3 := fun hz1 σ'' z3 c1 c2 c3 c4 => by
                  rw [if_neg (by decide), if_neg (by omega)] at c4
                  rcases q4 with ⟨u, -⟩ | ⟨-, u1, u2, u3, u4, u5, u6⟩
                  · omega
                  · refine Or.inr ⟨hs, Or.inr (Or.inr ⟨by rw [n2], nG.mpr ⟨u1, u2⟩, by rw [c4, j18, n2]; rfl, by omega, by omega⟩), Or.inr ⟨by omega, fun k => ?_, fun k => ?_, fun k hk => ?_, fun i j a b c d => ?_⟩⟩
                    · rw [(c3 k).1, u3 k, n2, (tk k).1]; rfl
                    · rw [(c3 k).2.1, u4 k, n2, (tk k).2.1]; rfl
                    · rw [n2] at hk
                      rw [(c3 k).2.2, u5 k hk, (tk k).2.2]
                    · rw [n2] at b d ⊢
                      exact (c3 _).2.2.trans (u6 i j a b c d)
                refine ok_if_ne 64 132 rfl rfl rfl (fun h122 => ?_) (fun h122 => ?_)
                · first | exact tail _ _ _ g2 hb2 hT6 | exact tail _ _ _ g1 hb1 (hT0 (by omega))
                · refine ok_aload_n 65 rfl rfl rfl (ok_bipush 66 rfl rfl (by decide) (by decide) (ok_callVI (M' := M_Mo_fails) (as := [_]) 67 rfl rfl ml_X12_164 (t_Mo_fails j9) rfl rfl (Nat.le_of_ble_eq_true rfl) ⟨Nat.le_of_ble_eq_true rfl, Nat.le_of_ble_eq_true rfl⟩ rfl (Nat.le_of_ble_eq_true rfl) (fun σ' z2 hz0 => ?_)))
                  obtain ⟨⟨-, y1, y2⟩, y3, y4⟩ := fl_of (by decide) hz0
                  have g2 : fr rgT σ σ' := g1.tr (y1.mono (fun c k q => by simp only [rgT]; omega))
                  have hb2 : iB1 σ' := hb1.fr (fun c k q => y1 c k (by omega))
                  have hT6 : ∀ (σ'' : eS) (z3 : Int), σ'' 0 7 = σ' 0 9 → σ'' 0 8 = σ' 0 10 → tbK σ' σ'' → z3 = (if (1 : Int) = 0 then -2 else if σ' 0 9 ≠ 0 then -1 else σ' 0 18) → TB σ s σ'' z3 := fun σ'' z3 c1 c2 c3 c4 => by
                    rw [if_neg (by decide), if_pos y2] at c4
                    rcases q4 with ⟨-, u1, u2⟩ | ⟨u, -⟩
                    · refine Or.inr ⟨hs, Or.inr (Or.inl ⟨by rw [n2], fun q => ?_, c4, by omega, by omega⟩), Or.inl ⟨by omega, ((tk.tr u2).tr (tbK.of y1 (fun k => by omega))).tr c3⟩⟩
                      rw [nG] at q
                      rcases u1 with u1 | u1
                      · have := q.1; omega
                      · exact u1 q.2
                    · omega
                  refine ok_pop 68 rfl rfl rfl ?_
                  first | exact tail _ _ _ g2 hb2 hT6 | exact tail _ _ _ g1 hb1 (hT0 (by omega))
          · refine ok_aload_n 52 rfl rfl rfl (ok_iconst 53 rfl rfl (by decide) (ok_callVI (M' := M_Mo_fails) (as := [_]) 54 rfl rfl ml_X12_164 (t_Mo_fails (by omega)) rfl rfl (Nat.le_of_ble_eq_true rfl) ⟨Nat.le_of_ble_eq_true rfl, Nat.le_of_ble_eq_true rfl⟩ rfl (Nat.le_of_ble_eq_true rfl) (fun σ' z hz0 => ?_)))
            obtain ⟨⟨-, q1, q2⟩, q3, q4⟩ := fl_of (by decide) hz0
            have g : fr rgT σ σ' := f.tr (q1.mono (fun c k q => by simp only [rgT]; omega))
            have hb' : iB1 σ' := hb.fr (fun c k q => q1 c k (by omega))
            obtain ⟨-, n1, n2, -⟩ := ended (by omega)
            rw [if_pos (by omega)] at n2
            refine ok_pop 55 rfl rfl rfl (ok_iload_n 56 rfl rfl rfl (ok_if_eq 57 132 rfl rfl rfl (fun h107 => ?_) (fun h107 => ?_)))
            · omega
            · refine ok_aload_n 58 rfl rfl rfl (ok_getI 59 rfl rfl fl_X12_154 rfl rfl (Or.inl rfl) (ok_if_ne 60 132 rfl rfl rfl (fun h114 => ?_) (fun h114 => ?_)))
              · refine tail _ _ _ g hb' (fun σ'' z c1 c2 c3 c4 => ?_)
                rw [if_neg (by decide), if_pos q2] at c4
                exact Or.inr ⟨hs, Or.inl ⟨by rw [n2]; show (5 : Int) ≠ 0; decide, c4, by rw [n2, c1, q3], by rw [n2, c2, q4]; exact n1⟩, Or.inl ⟨by omega, (tk.tr (tbK.of q1 (fun k => by omega))).tr c3⟩⟩
              · exact absurd h114 q2
    have loop : ∀ (m : Int) (τ : eS), (m = 0 ∨ m = 1) → fr rgT σ τ → iB1 τ → Pz τ → (m = 1 → RR τ ∧ τ 0 9 = 0 ∧ τ 0 11 ≠ 0 ∧ tbK σ τ ∧ τ 0 6 = σ 0 6 ∧ τ 0 10 = -1 ∧ TK τ ∧ PB τ 0 = RB σ) → (m = 0 → TE σ τ) → Ok shB M_Mo_table 51 [some (vr 0), some (vi s), some (vi 1), some (vi m)] [] τ (fun σ' v => ∃ z, v = some (vi z) ∧ QT σ σ' z ∧ TB σ s σ' z) := by
      intro m τ h1 h2 h3 h4 h5 h6
      refine lpO2 (fun (m : Int) (_ : eS) => [some (vr 0), some (vi s), some (vi 1), some (vi m)]) (fun _ τ => τ) (fun m τ => (m = 0 ∨ m = 1) ∧ fr rgT σ τ ∧ iB1 τ ∧ Pz τ ∧ (m = 1 → RR τ ∧ τ 0 9 = 0 ∧ τ 0 11 ≠ 0 ∧ tbK σ τ ∧ τ 0 6 = σ 0 6 ∧ τ 0 10 = -1 ∧ TK τ ∧ PB τ 0 = RB σ) ∧ (m = 0 → TE σ τ)) (fun m τ => if m = 0 then 0 else (700 - τ 0 12).toNat + 1) ?_ m τ ⟨h1, h2, h3, h4, h5, h6⟩
      clear h1 h2 h3 h4 h5 h6 m τ
      rintro m τ ⟨h1, h2, h3, h4, h5, h6⟩ ih
      refine ok_iload_n 29 rfl rfl rfl (ok_if_eq 30 78 rfl rfl rfl (fun h52 => ?_) (fun h52 => ?_))
      · rw [show m = 0 by omega]
        exact after τ h2 h3 (h6 (by omega))
      · have hm : m = 1 := by omega
        subst hm
        obtain ⟨k1, k2, k3, k4, k5, k6, k7, k8⟩ := h5 rfl
        have by1 : byt τ := by unfold byt; rw [k5]; intro k a b; rw [h2 5 k (by simp [rgT])]; exact hby k a b
        refine ok_aload_n 31 rfl rfl rfl (ok_callVI (M' := M_Mo_readRow) (as := []) 32 rfl rfl ml_X12_183 (t_Mo_readRow h4 k1 k7 by1 k2 k3) rfl rfl (Nat.le_of_ble_eq_true rfl) ⟨Nat.le_of_ble_eq_true rfl, Nat.le_of_ble_eq_true rfl⟩ rfl (Nat.le_of_ble_eq_true rfl) (fun τ1 z hz => ?_))
        obtain ⟨⟨z1, z2, z3⟩, z4⟩ := hz
        have g1 : fr rgT σ τ1 := h2.tr (z1.mono (fun c k q => by simp only [rgR] at q; simp only [rgT]; omega))
        have hb1 : iB1 τ1 := h3.fr (fun c k q => z1 c k (by simp only [rgR]; omega))
        have g2 : tbK σ τ1 := k4.tr (tbK.of z1 (fun k => by simp only [rgR]; omega))
        have g6 : τ1 0 6 = σ 0 6 := by rw [z1 0 6 (by simp [rgR])]; exact k5
        have l1 := h4.1
        have l2 := z2.2.1
        have l3 := z2.2.2.1
        have l4 := z2.2.2.2.1
        refine ok_if_eq 33 73 rfl rfl rfl (fun h59 => ?_) (fun h59 => ?_)
        · refine ok_iconst 39 rfl rfl (by decide) (ok_ist3 40 rfl rfl rfl (ok_goto 41 51 rfl rfl rfl ?_))
          refine ih _ τ1 ⟨by omega, g1, hb1, z2, fun q => ?_, fun q => ?_⟩ (by
            rcases z3 with ⟨y1, y2⟩ | ⟨y1, y2, y3, y4⟩
            · first | omega | (simp; done)
            · first | (rw [if_neg (by decide), if_neg (by decide)]; omega) | (simp; done))
          · rcases z3 with ⟨y1, y2⟩ | ⟨y1, y2, y3, y4⟩
            · omega
            · rcases z4 with ⟨x1, x2, x3, x4⟩ | ⟨x1, -⟩
              · exact ⟨y3, by omega, by omega, g2, g6, x4.trans k6, x2, x3.trans k8⟩
              · omega
          · rcases z3 with ⟨y1, y2⟩ | ⟨y1, y2, y3, y4⟩
            · rcases z4 with ⟨x1, -⟩ | ⟨-, x2, x3⟩
              · omega
              · rw [k8] at x2 x3; exact ⟨g2, g6, Or.inl ⟨y2, x2, x3⟩⟩
            · rcases z4 with ⟨x1, x2, x3, x4⟩ | ⟨x1, -⟩
              · exact ⟨g2, g6, Or.inr ⟨by omega, x4.trans k6, y3, z2, by omega, x2, x3.trans k8⟩⟩
              · omega
        · refine ok_aload_n 34 rfl rfl rfl (ok_getI 35 rfl rfl fl_X12_147 rfl rfl (Or.inl rfl) (ok_if_eq 36 73 rfl rfl rfl (fun h66 => ?_) (fun h66 => ?_)))
          · refine ok_iconst 39 rfl rfl (by decide) (ok_ist3 40 rfl rfl rfl (ok_goto 41 51 rfl rfl rfl ?_))
            refine ih _ τ1 ⟨by omega, g1, hb1, z2, fun q => ?_, fun q => ?_⟩ (by
              rcases z3 with ⟨y1, y2⟩ | ⟨y1, y2, y3, y4⟩
              · first | omega | (simp; done)
              · first | (rw [if_neg (by decide), if_neg (by decide)]; omega) | (simp; done))
            · rcases z3 with ⟨y1, y2⟩ | ⟨y1, y2, y3, y4⟩
              · omega
              · rcases z4 with ⟨x1, x2, x3, x4⟩ | ⟨x1, -⟩
                · exact ⟨y3, by omega, by omega, g2, g6, x4.trans k6, x2, x3.trans k8⟩
                · omega
            · rcases z3 with ⟨y1, y2⟩ | ⟨y1, y2, y3, y4⟩
              · rcases z4 with ⟨x1, -⟩ | ⟨-, x2, x3⟩
                · omega
                · rw [k8] at x2 x3; exact ⟨g2, g6, Or.inl ⟨y2, x2, x3⟩⟩
              · rcases z4 with ⟨x1, x2, x3, x4⟩ | ⟨x1, -⟩
                · exact ⟨g2, g6, Or.inr ⟨by omega, x4.trans k6, y3, z2, by omega, x2, x3.trans k8⟩⟩
                · omega
          · refine ok_iconst 37 rfl rfl (by decide) (ok_goto 38 74 rfl rfl rfl (ok_ist3 40 rfl rfl rfl (ok_goto 41 51 rfl rfl rfl ?_)))
            refine ih _ τ1 ⟨by omega, g1, hb1, z2, fun q => ?_, fun q => ?_⟩ (by
              rcases z3 with ⟨y1, y2⟩ | ⟨y1, y2, y3, y4⟩
              · first | omega | (simp; done)
              · first | (rw [if_neg (by decide), if_neg (by decide)]; omega) | (simp; done))
            · rcases z3 with ⟨y1, y2⟩ | ⟨y1, y2, y3, y4⟩
              · omega
              · rcases z4 with ⟨x1, x2, x3, x4⟩ | ⟨x1, -⟩
                · exact ⟨y3, by omega, by omega, g2, g6, x4.trans k6, x2, x3.trans k8⟩
                · omega
            · rcases z3 with ⟨y1, y2⟩ | ⟨y1, y2, y3, y4⟩
              · rcases z4 with ⟨x1, -⟩ | ⟨-, x2, x3⟩
                · omega
                · rw [k8] at x2 x3; exact ⟨g2, g6, Or.inl ⟨y2, x2, x3⟩⟩
              · rcases z4 with ⟨x1, x2, x3, x4⟩ | ⟨x1, -⟩
                · exact ⟨g2, g6, Or.inr ⟨by omega, x4.trans k6, y3, z2, by omega, x2, x3.trans k8⟩⟩
                · omega
    refine ok_aload_n 0 rfl rfl rfl (ok_iconst 1 rfl rfl (by decide) (ok_putI 2 rfl rfl fl_X12_167 rfl rfl rfl rfl (ok_aload_n 3 rfl rfl rfl (ok_iconst 4 rfl rfl (by decide) (ok_putI 5 rfl rfl fl_X12_170 rfl rfl rfl rfl (ok_aload_n 6 rfl rfl rfl (ok_iconst 7 rfl rfl (by decide) (ok_putI 8 rfl rfl fl_X12_132 rfl rfl rfl rfl (ok_aload_n 9 rfl rfl rfl (ok_iconst 10 rfl rfl (by decide) (ok_putI 11 rfl rfl fl_X12_154 rfl rfl rfl rfl (ok_aload_n 12 rfl rfl rfl (ok_iconst 13 rfl rfl (by decide) (ok_putI 14 rfl rfl fl_X12_157 rfl rfl rfl rfl ?_))))))))))))))
    rw [← e0]
    refine ok_aload_n 15 rfl rfl rfl (ok_callVV (M' := M_Mo_next) (as := []) 16 rfl rfl ml_X12_173 (t_Mo_next p0 by0) rfl rfl (Nat.le_of_ble_eq_true rfl) ⟨Nat.le_of_ble_eq_true rfl, Nat.le_of_ble_eq_true rfl⟩ rfl (Nat.le_of_ble_eq_true rfl) (fun τ1 hl => ?_))
    obtain ⟨s1, s2, s3, s4, s5, s6, s7, s8, s9, s10⟩ := start τ1 hl
    have s11 : τ1 0 6 = σ 0 6 := by rw [hl.1.1 0 6 (by omega)]; exact a6
    refine ok_iload_n 17 rfl rfl rfl (ok_callSI (M' := M_Mo_isSlot) (as := [_]) 18 rfl rfl ml_X12_103 (s_Mo_isSlot_y hs) ⟨Nat.le_of_ble_eq_true rfl, Nat.le_of_ble_eq_true rfl⟩ rfl (Nat.le_of_ble_eq_true rfl) (fun σ' z hz => ?_))
    rw [hz.1, hz.2]
    clear hz z σ'
    refine ok_ist2 19 rfl rfl rfl (ok_iload_n 20 rfl rfl rfl (ok_if_eq 21 49 rfl rfl rfl (fun h35 => ?_) (fun h35 => ?_)))
    · omega
    · refine ok_aload_n 22 rfl rfl rfl (ok_getI 23 rfl rfl fl_X12_147 rfl rfl (Or.inl rfl) (ok_if_eq 24 49 rfl rfl rfl (fun h42 => ?_) (fun h42 => ?_)))
      · refine ok_iconst 27 rfl rfl (by decide) (ok_ist3 28 rfl rfl rfl ?_)
        exact loop _ τ1 (by omega) s1 s2 s3 (fun q => ⟨s5, s4, by omega, s9, s11, s6, s7, s8⟩) (fun _ => ⟨s9, s11, Or.inr ⟨s4, s6, s5, s3, by omega, s7, s8⟩⟩)
      · refine ok_iconst 25 rfl rfl (by decide) (ok_goto 26 50 rfl rfl rfl (ok_ist3 28 rfl rfl rfl ?_))
        exact loop _ τ1 (by omega) s1 s2 s3 (fun q => ⟨s5, s4, by omega, s9, s11, s6, s7, s8⟩) (fun _ => ⟨s9, s11, Or.inr ⟨s4, s6, s5, s3, by omega, s7, s8⟩⟩)
  · refine ok_aload_n 0 rfl rfl rfl (ok_iconst 1 rfl rfl (by decide) (ok_putI 2 rfl rfl fl_X12_167 rfl rfl rfl rfl (ok_aload_n 3 rfl rfl rfl (ok_iconst 4 rfl rfl (by decide) (ok_putI 5 rfl rfl fl_X12_170 rfl rfl rfl rfl (ok_aload_n 6 rfl rfl rfl (ok_iconst 7 rfl rfl (by decide) (ok_putI 8 rfl rfl fl_X12_132 rfl rfl rfl rfl (ok_aload_n 9 rfl rfl rfl (ok_iconst 10 rfl rfl (by decide) (ok_putI 11 rfl rfl fl_X12_154 rfl rfl rfl rfl (ok_aload_n 12 rfl rfl rfl (ok_iconst 13 rfl rfl (by decide) (ok_putI 14 rfl rfl fl_X12_157 rfl rfl rfl rfl ?_))))))))))))))
    rw [← e0]
    refine ok_aload_n 15 rfl rfl rfl (ok_callVV (M' := M_Mo_next) (as := []) 16 rfl rfl ml_X12_173 (t_Mo_next p0 by0) rfl rfl (Nat.le_of_ble_eq_true rfl) ⟨Nat.le_of_ble_eq_true rfl, Nat.le_of_ble_eq_true rfl⟩ rfl (Nat.le_of_ble_eq_true rfl) (fun τ1 hl => ?_))
    obtain ⟨s1, s2, s3, s4, s5, s6, s7, s8, s9, s10⟩ := start τ1 hl
    refine ok_iload_n 17 rfl rfl rfl (ok_callSI (M' := M_Mo_isSlot) (as := [_]) 18 rfl rfl ml_X12_103 (s_Mo_isSlot_n hs) ⟨Nat.le_of_ble_eq_true rfl, Nat.le_of_ble_eq_true rfl⟩ rfl (Nat.le_of_ble_eq_true rfl) (fun σ' z hz => ?_))
    rw [hz.1, hz.2]
    clear hz z σ'
    refine ok_ist2 19 rfl rfl rfl (ok_iload_n 20 rfl rfl rfl (ok_if_eq 21 49 rfl rfl rfl (fun h35 => ?_) (fun h35 => ?_)))
    · refine ok_iconst 27 rfl rfl (by decide) (ok_ist3 28 rfl rfl rfl (ok_iload_n 29 rfl rfl rfl (ok_if_eq 30 78 rfl rfl rfl (fun h52 => ?_) (fun h52 => ?_))))
      · refine ok_iload_n 42 rfl rfl rfl (ok_if_eq 43 106 rfl rfl rfl (fun h79 => ?_) (fun h79 => ?_))
        · refine ok_iload_n 56 rfl rfl rfl (ok_if_eq 57 132 rfl rfl rfl (fun h107 => ?_) (fun h107 => ?_))
          · refine tail _ _ _ s1 s2 (fun σ' z c1 c2 c3 c4 => ?_)
            rw [if_pos rfl] at c4
            exact Or.inl ⟨hs, c4, by omega, by omega, s9.tr c3⟩
          · omega
        · omega
      · omega
    · omega
end
section
/-! BITS of ints and longs (begun from the kit's rows on bits) -/
def lb (z : Int) (i : Nat) : Bool := (Int64.ofInt z).toBitVec.getLsbD i
def ib (z : Int) (i : Nat) : Bool := (Int32.ofInt z).toBitVec.getLsbD i
theorem ib_lb (z : Int) {i : Nat} (hi : i < 32) : ib z i = lb z i := by
  show (BitVec.ofInt 32 z).getLsbD i = (BitVec.ofInt 64 z).getLsbD i
  rw [← BitVec.testBit_toNat, ← BitVec.testBit_toNat, BitVec.toNat_ofInt, BitVec.toNat_ofInt]
  have e : (z % ((2 ^ 32 : Nat) : Int)).toNat = (z % ((2 ^ 64 : Nat) : Int)).toNat % 2 ^ 32 := by omega
  rw [e, Nat.testBit_mod_two_pow]
  simp [hi]
theorem ib_wr (z : Int) {i : Nat} (hi : i < 32) : ib (wr z) i = lb z i := by
  rw [← ib_lb z hi]
  unfold ib wr
  rw [Int32.ofInt_toInt]
theorem lb_ext {a b : Int} (ha : rl a) (hb : rl b) (h : ∀ i, i < 64 → lb a i = lb b i) : a = b := by
  rw [← rl_in ha, ← rl_in hb]
  exact congrArg Int64.toInt (Int64.toBitVec_inj.mp (BitVec.eq_of_getLsbD_eq (fun i hi => h i hi)))
theorem ib_ext {a b : Int} (ha : rg a) (hb : rg b) (h : ∀ i, i < 32 → ib a i = ib b i) : a = b := by
  rw [← rg_in ha, ← rg_in hb]
  exact congrArg Int32.toInt (Int32.toBitVec_inj.mp (BitVec.eq_of_getLsbD_eq (fun i hi => h i hi)))
theorem lb_and (a b : Int) (i : Nat) : lb (land a b) i = (lb a i && lb b i) := by unfold lb land; rw [Int64.ofInt_toInt, Int64.toBitVec_and, BitVec.getLsbD_and]
theorem lb_or (a b : Int) (i : Nat) : lb (lor a b) i = (lb a i || lb b i) := by unfold lb lor; rw [Int64.ofInt_toInt, Int64.toBitVec_or, BitVec.getLsbD_or]
theorem lb_xor (a b : Int) (i : Nat) : lb (lxor a b) i = (lb a i ^^ lb b i) := by unfold lb lxor; rw [Int64.ofInt_toInt, Int64.toBitVec_xor, BitVec.getLsbD_xor]
theorem ib_and (a b : Int) (i : Nat) : ib (iand a b) i = (ib a i && ib b i) := by unfold ib iand; rw [Int32.ofInt_toInt, Int32.toBitVec_and, BitVec.getLsbD_and]
theorem ib_or (a b : Int) (i : Nat) : ib (ior a b) i = (ib a i || ib b i) := by unfold ib ior; rw [Int32.ofInt_toInt, Int32.toBitVec_or, BitVec.getLsbD_or]
theorem ib_xor (a b : Int) (i : Nat) : ib (ixor a b) i = (ib a i ^^ ib b i) := by unfold ib ixor; rw [Int32.ofInt_toInt, Int32.toBitVec_xor, BitVec.getLsbD_xor]
theorem sl_32 : ∀ n : Fin 32, ((Int32.ofInt (n.val : Int) &&& 31).toBitVec.smod 32).toNat = n.val := by decide +kernel
theorem su_32 : ∀ n : Fin 32, (((Int32.ofInt (n.val : Int)).toUInt32 &&& Int32.toUInt32 31).toBitVec % 32).toNat = n.val := by decide +kernel
theorem sl_64 : ∀ n : Fin 64, (((Int32.ofInt (n.val : Int)).toInt64 &&& 63).toBitVec.smod 64).toNat = n.val := by decide +kernel
theorem su_64 : ∀ n : Fin 64, (((Int32.ofInt (n.val : Int)).toInt64.toUInt64 &&& Int64.toUInt64 63).toBitVec % 64).toNat = n.val := by decide +kernel
theorem ib_shr (a : Int) {n i : Nat} (hn : n < 32) (hi : i < 32) : ib (ishr a (n : Int)) i = if n + i < 32 then ib a (n + i) else ib a 31 := by
  unfold ib ishr
  rw [Int32.ofInt_toInt, Int32.toBitVec_shiftRight]
  show ((Int32.ofInt a).toBitVec.sshiftRight ((Int32.ofInt (n : Int) &&& 31).toBitVec.smod 32).toNat).getLsbD i = _
  rw [sl_32 ⟨n, hn⟩, BitVec.getLsbD_sshiftRight, BitVec.msb_eq_getLsbD_last]
  simp [hi]
theorem ib_ushr (a : Int) {n : Nat} (hn : n < 32) (i : Nat) : ib (iushr a (n : Int)) i = ib a (n + i) := by
  unfold ib iushr
  rw [Int32.ofInt_toInt]
  show ((Int32.ofInt a).toUInt32 >>> ((Int32.ofInt (n : Int)).toUInt32 &&& Int32.toUInt32 31)).toBitVec.getLsbD i = (Int32.ofInt a).toUInt32.toBitVec.getLsbD (n + i)
  rw [UInt32.toBitVec_shiftRight]
  show ((Int32.ofInt a).toUInt32.toBitVec >>> (((Int32.ofInt (n : Int)).toUInt32 &&& Int32.toUInt32 31).toBitVec % 32).toNat).getLsbD i = _
  rw [su_32 ⟨n, hn⟩, BitVec.getLsbD_ushiftRight]
theorem lb_ushr (a : Int) {n : Nat} (hn : n < 64) (i : Nat) : lb (lushr a (n : Int)) i = lb a (n + i) := by
  unfold lb lushr
  rw [Int64.ofInt_toInt]
  show ((Int64.ofInt a).toUInt64 >>> ((Int32.ofInt (n : Int)).toInt64.toUInt64 &&& Int64.toUInt64 63)).toBitVec.getLsbD i = (Int64.ofInt a).toUInt64.toBitVec.getLsbD (n + i)
  rw [UInt64.toBitVec_shiftRight]
  show ((Int64.ofInt a).toUInt64.toBitVec >>> (((Int32.ofInt (n : Int)).toInt64.toUInt64 &&& Int64.toUInt64 63).toBitVec % 64).toNat).getLsbD i = _
  rw [su_64 ⟨n, hn⟩, BitVec.getLsbD_ushiftRight]
theorem lb_shl (a : Int) {n i : Nat} (hn : n < 64) (hi : i < 64) : lb (lshl a (n : Int)) i = (decide (n ≤ i) && lb a (i - n)) := by
  unfold lb lshl
  rw [Int64.ofInt_toInt, Int64.toBitVec_shiftLeft]
  show ((Int64.ofInt a).toBitVec <<< (((Int32.ofInt (n : Int)).toInt64 &&& 63).toBitVec.smod 64).toNat).getLsbD i = _
  rw [sl_64 ⟨n, hn⟩, BitVec.getLsbD_shiftLeft]
  rcases Nat.lt_or_ge i n with h | h
  · simp [h, Nat.not_le.mpr h]
  · simp [hi, h, Nat.not_lt.mpr h]
theorem ib_255 : ∀ i : Fin 32, ib 255 i.val = decide (i.val < 8) := by decide +kernel
theorem lb_255 : ∀ i : Fin 64, lb 255 i.val = decide (i.val < 8) := by decide +kernel
theorem lb_1 : ∀ i : Fin 64, lb 1 i.val = decide (i.val = 0) := by decide +kernel
theorem lb_0 (i : Nat) : lb 0 i = false := BitVec.getLsbD_zero
theorem lb_big {z : Int} {i : Nat} (h : 64 ≤ i) : lb z i = false := BitVec.getLsbD_of_ge _ _ h
theorem rg_iand (a b : Int) : rg (iand a b) := rg_to _
theorem rg_ior (a b : Int) : rg (ior a b) := rg_to _
theorem rl_lor (a b : Int) : rl (lor a b) := rl_to _
/-- a byte, by either shift -/
theorem by_al {v k : Int} (h : 0 ≤ k ∧ k < 4) : byA v k = by4 v k := by
  unfold byA by4
  obtain ⟨n, hn⟩ : ∃ n : Nat, 24 - 8 * k = (n : Int) := ⟨(24 - 8 * k).toNat, by omega⟩
  rw [hn]
  refine ib_ext (rg_iand _ _) (rg_iand _ _) (fun i hi => ?_)
  rw [ib_and, ib_and, ib_255 ⟨i, hi⟩, ib_ushr v (by omega) i, ib_shr v (by omega) hi]
  by_cases q : i < 8
  · rw [if_pos (by omega)]
  · rw [decide_eq_false q, Bool.and_false, Bool.and_false]
theorem nn_of_31 {a : Int} (h : rg a) (h1 : ib a 31 = false) : 0 ≤ a := by
  have e : (Int32.ofInt a).toInt = a := rg_in h
  have m : (Int32.ofInt a).toBitVec.msb = false := by rw [BitVec.msb_eq_getLsbD_last]; exact h1
  have t := BitVec.toInt_eq_msb_cond (Int32.ofInt a).toBitVec
  rw [m] at t
  have t2 : (Int32.ofInt a).toInt = (Int32.ofInt a).toBitVec.toInt := rfl
  rw [e] at t2
  rw [t2, t, if_neg (by decide)]
  exact Int.natCast_nonneg _
theorem by4_nn (v k : Int) : 0 ≤ by4 v k := by
  unfold by4
  refine nn_of_31 (rg_iand _ _) ?_
  rw [ib_and, ib_255 ⟨31, by decide⟩]
  simp
end
section
/-! `table` of the class, exactly -/
def RAr (σ : eS) : oA := PR (σ 11) (σ 10 3) 0 0 0 0 (σ 12) (σ 13)
def TTt (σ σ' : eS) (t : Nat) : Prop := σ' t 1 = oN (RAr σ) ∧ σ' t 2 = oB (RAr σ) ∧ ∀ i j, 0 ≤ i → i < oN (RAr σ) → 0 ≤ j → j < oN (RAr σ) → σ' (t + 4) (i * 8 + j) = oAb (RAr σ) (i * 8 + j) * (oB (RAr σ) / oUn (RAr σ) (i * 8 + j))
/-- all other tables stay -/
def tbX (σ σ' : eS) (t : Nat) : Prop := (∀ (c : Nat) (k : Int), 2 ≤ c → c ≤ 9 → c ≠ t → c ≠ t + 4 → σ' c k = σ c k) ∧ σ' t 4 = 0 ∧ σ' t 6 = 0
def TA (σ : eS) (s : Int) (σ' : eS) (z : Int) : Prop := (¬ (0 ≤ s ∧ s < 4) ∧ z = -2 ∧ σ' 10 4 = 0 ∧ σ' 10 5 = -1 ∧ tbS σ σ') ∨ ((0 ≤ s ∧ s < 4) ∧ oS (RAr σ) ∧ tbO (RAr σ) (σ 10 3) z (σ' 10 4) (σ' 10 5) ∧ ((σ' 10 4 ≠ 0 ∧ tbS σ σ') ∨ (σ' 10 4 = 0 ∧ TTt σ σ' (s.toNat + 2) ∧ tbX σ σ' (s.toNat + 2))))
theorem TI_tbO {t : Nat} {σ σ' : eS} {z : Int} (ht : tA t) (h : TI t σ σ') (hz : (σ' 10 4 = 0 ∧ z = σ' t 1) ∨ (σ' 10 4 ≠ 0 ∧ z = -1)) : oS (RAr σ) ∧ tbO (RAr σ) (σ 10 3) z (σ' 10 4) (σ' 10 5) ∧ ((σ' 10 4 ≠ 0 ∧ (∀ k, σ' t k = σ t k) ∧ ∀ k, σ' (t + 4) k = σ (t + 4) k) ∨ (σ' 10 4 = 0 ∧ TTt σ σ' t ∧ σ' t 4 = 0 ∧ σ' t 6 = 0)) := by
  obtain ⟨ρ, r11, r3, h0, h1, ht1, ht2, ur, υ, hF, e⟩ := h
  obtain ⟨n1, n2, -⟩ := tA_10 ht
  have e4 : σ' 10 4 = υ 10 4 := by rw [e, up_nk _ _ _ _ (by decide)]
  have e5 : σ' 10 5 = υ 10 5 := by rw [e, up_nk _ _ _ _ (by decide)]
  have eT : ∀ k, σ' t k = υ t k := fun k => by rw [e, up_ne _ _ _ _ n1]
  have eC : ∀ k, σ' (t + 4) k = υ (t + 4) k := fun k => by rw [e, up_ne _ _ _ _ n2]
  by_cases q : ρ 10 4 = 0
  · obtain ⟨p1, p2, p3⟩ := h0 q
    have R : RAr σ = (0, -1, ρ 10 7, ρ 10 9, ρ 12, ρ 13) := p1
    have hS : oS (RAr σ) := fun _ => by rw [R]; exact p2
    rcases hF with ⟨w, -⟩ | ⟨-, w, ew⟩ | ⟨-, w1, w2, w3, w4, w5, w6, w8, w7⟩
    · exact absurd q w
    · have s4 : σ' 10 4 = 6 := by rw [e4, ew]; simp [up_if]
      have s5 : σ' 10 5 = σ 10 3 := by rw [e5, ew]; simp [up_if, r3]
      refine ⟨hS, Or.inr (Or.inl ⟨by rw [R], ?_, by omega, s4, s5⟩), Or.inl ⟨by omega, fun k => ?_, fun k => ?_⟩⟩
      · rw [R]
        rintro ⟨g1, g2⟩
        rcases w with w | w
        · have : (1 : Int) ≤ cbA ρ := g1
          omega
        · exact w g2
      · rw [eT, ew, up_ne _ _ _ _ n1, up_ne _ _ _ _ n1, ht1]
      · rw [eC, ew, up_ne _ _ _ _ n2, up_ne _ _ _ _ n2, ht2]
    · have s4 : σ' 10 4 = 0 := by rw [e4, w4, q]
      have s5 : σ' 10 5 = -1 := by rw [e5, w4, p3]
      have s1 : σ' t 1 = ρ 10 7 := by rw [eT, w5]
      refine ⟨hS, Or.inr (Or.inr ⟨by rw [R], by rw [R]; exact ⟨w1, w3⟩, ?_, s4, s5⟩), Or.inr ⟨s4, ?_, by rw [eT]; exact w8.1, by rw [eT]; exact w8.2⟩⟩
      · rw [R]; show z = ρ 10 7; omega
      · unfold TTt
        rw [R]
        exact ⟨s1, by rw [eT, w6]; rfl, fun i j a b c d => by rw [eC]; exact w7 i j a b c d⟩
  · obtain ⟨p1, p2⟩ := h1 q
    have p1 : (RAr σ).1 = ρ 10 4 := p1
    have p2 : (RAr σ).2.1 = ρ 10 5 := p2
    rcases hF with ⟨-, w⟩ | ⟨w, -⟩ | ⟨w, -⟩
    · have s4 : σ' 10 4 = ρ 10 4 := by rw [e4, w]
      have s5 : σ' 10 5 = ρ 10 5 := by rw [e5, w]
      refine ⟨fun z0 => absurd (by omega) q, Or.inl ⟨by omega, by omega, by omega, by omega⟩, Or.inl ⟨by omega, fun k => ?_, fun k => ?_⟩⟩
      · rw [eT, w, ht1]
      · rw [eC, w, ht2]
    · exact absurd w q
    · exact absurd w q
theorem t_Tp_drop {σ : eS} : MtV shA M_Tp_drop [vr 10] σ (fun σ' => σ' = up (up (up σ 10 3 0) 10 4 0) 10 5 (-1)) := by
  refine Mt.of okM_Tp_drop (Nat.le_of_ble_eq_true rfl) (fun hk hg => ?_)
  refine ok_aload_n 0 rfl rfl rfl (ok_iconst 1 rfl rfl (by decide) (ok_putI 2 rfl rfl fl_X10_21 rfl rfl rfl rfl (ok_aload_n 3 rfl rfl rfl (ok_iconst 4 rfl rfl (by decide) (ok_putI 5 rfl rfl fl_X10_25 rfl rfl rfl rfl (ok_aload_n 6 rfl rfl rfl (ok_iconst 7 rfl rfl (by decide) (ok_putI 8 rfl rfl fl_X10_28 rfl rfl rfl rfl (ok_vret 9 rfl rfl rfl ?_)))))))))
  exact ⟨rfl, rfl⟩
theorem t_Ev_table {σ : eS} {s : Int} (h : IA σ) : MtI shA M_Ev_table [vr 0, vi s] σ (fun σ' z => IA σ' ∧ (σ' 10 3 = 0 ∧ TA σ s σ' z) ∧ otS σ σ') := by
  refine Mt.of okM_Ev_table (Nat.le_of_ble_eq_true rfl) (fun hk hg => ?_)
  refine ok_aload_n 0 rfl rfl rfl (ok_iload_n 1 rfl rfl rfl (ok_callVR (M' := M_Ev_slotAt) (as := [_]) 2 rfl rfl ml_X11_86 (s_Ev_slotAt) rfl rfl (Nat.le_of_ble_eq_true rfl) ⟨Nat.le_of_ble_eq_true rfl, Nat.le_of_ble_eq_true rfl⟩ rfl (Nat.le_of_ble_eq_true rfl) (fun σ' z hz => ?_)))
  obtain ⟨hs_, hz⟩ := hz
  rw [hs_]; clear hs_ σ'
  rcases hz with ⟨q, q2⟩ | ⟨q1, q2, q⟩
  · subst q
    refine ok_ast2 3 rfl rfl rfl (ok_aload_n 4 rfl rfl rfl (ok_ifnonnullN 5 rfl rfl (ok_aload_n 6 rfl rfl rfl (ok_getR 7 rfl rfl fl_X11_18 rfl rfl (ok_callVV (M' := M_Tp_drop) (as := []) 8 rfl rfl ml_X11_90 (t_Tp_drop) rfl rfl (Nat.le_of_ble_eq_true rfl) ⟨Nat.le_of_ble_eq_true rfl, Nat.le_of_ble_eq_true rfl⟩ rfl (Nat.le_of_ble_eq_true rfl) (fun τ e => ?_))))))
    have f : fr (fun c k => c = 10 ∧ (k = 3 ∨ k = 4 ∨ k = 5)) σ τ := by rw [e]; exact fr_up (fr_up (fr_up fr.rf (by simp)) (by simp)) (by simp)
    have f3 : τ 10 3 = 0 := by rw [e]; simp [up_if]
    have f4 : τ 10 4 = 0 := by rw [e]; simp [up_if]
    have f5 : τ 10 5 = -1 := by rw [e]; simp [up_if]
    refine ok_bipush 9 rfl rfl (by decide) (by decide) (ok_iret 10 rfl rfl rfl ?_)
    refine ⟨_, rfl, ⟨⟨by omega, by omega⟩, iTs_cg h.2.1 (fun c k a b d => f c k (by omega)), iCh_cg h.2.2.1 (fun k => f _ k (by omega)), iMi_cg h.2.2.2.1 (fun c k a b => f c k (by omega)), iSh_cg h.2.2.2.2.1 (fun k => f _ k (by omega)), iSu_cg h.2.2.2.2.2 (fun k => f _ k (by omega))⟩, ⟨f3, Or.inl ⟨q2, rfl, f4, f5, fun c k a b d => f c k (by omega)⟩⟩, otS_fr f (fun c k w => by omega)⟩
  · subst q
    have ht := sl_tA ⟨q1, q2⟩
    have n := tA_10 ht
    refine ok_ast2 3 rfl rfl rfl (ok_aload_n 4 rfl rfl rfl (ok_ifnonnull 5 20 rfl rfl rfl (ok_aload_n 11 rfl rfl rfl (ok_getR 12 rfl rfl fl_X11_18 rfl rfl (ok_aload_n 13 rfl rfl rfl (ok_callVI (M' := M_Tp_readInto) (as := [_]) 14 rfl rfl ml_X11_93 (t_Tp_readInto ht h.1 (h.2.1 _ ht).1 (h.2.1 _ ht).2) rfl rfl (Nat.le_of_ble_eq_true rfl) ⟨Nat.le_of_ble_eq_true rfl, Nat.le_of_ble_eq_true rfl⟩ rfl (Nat.le_of_ble_eq_true rfl) (fun τ z f => ?_)))))))
    obtain ⟨f, f1, f2, f3, f4, f5⟩ := f
    obtain ⟨g1, g2, g3⟩ := TI_tbO ht f4 f5
    have fo : ∀ (c : Nat) (k : Int), 2 ≤ c → c ≤ 9 → c ≠ s.toNat + 2 → c ≠ s.toNat + 2 + 4 → τ c k = σ c k := fun c k a b d1 d2 => f c k (by simp only [rgRI]; omega)
    refine ok_iret 15 rfl rfl rfl ?_
    refine ⟨_, rfl, ⟨⟨by omega, by omega⟩, iTs_set ht h.2.1 fo f1 f2, iCh_cg h.2.2.1 (fun k => f _ k (by simp only [rgRI]; omega)), iMi_cg h.2.2.2.1 (fun c k a b => f c k (by simp only [rgRI]; omega)), iSh_cg h.2.2.2.2.1 (fun k => f _ k (by simp only [rgRI]; omega)), iSu_cg h.2.2.2.2.2 (fun k => f _ k (by simp only [rgRI]; omega))⟩, ⟨f3, Or.inr ⟨⟨q1, q2⟩, g1, g2, ?_⟩⟩, otS_fr f (fun c k w => by simp only [rgRI]; omega)⟩
    rcases g3 with ⟨w1, w2, w3⟩ | ⟨w1, w2, w3⟩
    · refine Or.inl ⟨w1, fun c k a b d => ?_⟩
      by_cases x : c = s.toNat + 2
      · rw [x]; exact w2 k
      · by_cases y : c = s.toNat + 2 + 4
        · rw [y]; exact w3 k
        · exact fo c k a b x y
    · exact Or.inr ⟨w1, w2, fo, w3⟩
/-- the bytes of both tapes -/
theorem fo_in {σ : eS} {t v i k : Int} (h : t ≤ k ∧ k < t + i) : fo σ t v i 5 k = by4 v (k - t) := by unfold fo; rw [if_neg (by omega), if_pos ⟨rfl, h⟩]
theorem fo_out {σ : eS} {t v i k : Int} (h : ¬ (t ≤ k ∧ k < t + i)) : fo σ t v i 5 k = σ 5 k := by unfold fo; rw [if_neg (by omega), if_neg (by omega)]
theorem fd_al {σ τ σ' : eS} {L a b c d e : Int} (hb : aB (σ 11) (τ 5) L) (h : fdA σ L a b c d e σ') : aB (σ' 11) (fd τ L a b c d e 5) (L + 20) := by
  intro i i0 iL
  obtain ⟨-, -, h1, h2⟩ := h
  unfold fd
  by_cases q : i < L
  · rw [fo_out (by omega), fo_out (by omega), fo_out (by omega), fo_out (by omega), fo_out (by omega), h1 i q]
    exact hb i i0 q
  · rcases (by omega : i < L + 4 ∨ (L + 4 ≤ i ∧ i < L + 8) ∨ (L + 8 ≤ i ∧ i < L + 12) ∨ (L + 12 ≤ i ∧ i < L + 16) ∨ L + 16 ≤ i) with w | w | w | w | w
    · have := (h2 (i - L) (by omega) (by omega)).1
      rw [show L + (i - L) = i by omega] at this
      rw [fo_out (by omega), fo_out (by omega), fo_out (by omega), fo_out (by omega), fo_in (by omega), this, by_al ⟨by omega, by omega⟩]
    · have := (h2 (i - L - 4) (by omega) (by omega)).2.1
      rw [show L + 4 + (i - L - 4) = i by omega] at this
      rw [fo_out (by omega), fo_out (by omega), fo_out (by omega), fo_in (by omega), this, by_al ⟨by omega, by omega⟩]
      congr 1; omega
    · have := (h2 (i - L - 8) (by omega) (by omega)).2.2.1
      rw [show L + 8 + (i - L - 8) = i by omega] at this
      rw [fo_out (by omega), fo_out (by omega), fo_in (by omega), this, by_al ⟨by omega, by omega⟩]
      congr 1; omega
    · have := (h2 (i - L - 12) (by omega) (by omega)).2.2.2.1
      rw [show L + 12 + (i - L - 12) = i by omega] at this
      rw [fo_out (by omega), fo_in (by omega), this, by_al ⟨by omega, by omega⟩]
      congr 1; omega
    · have := (h2 (i - L - 16) (by omega) (by omega)).2.2.2.2
      rw [show L + 16 + (i - L - 16) = i by omega] at this
      rw [fo_in (by omega), this, by_al ⟨by omega, by omega⟩]
      congr 1; omega
theorem fo_nn {σ : eS} {t v i : Int} (h : ∀ k, 0 ≤ k → k < t → 0 ≤ σ 5 k) : ∀ k, 0 ≤ k → k < t + i → 0 ≤ fo σ t v i 5 k := fun k a b => by
  by_cases q : k < t
  · rw [fo_out (by omega)]; exact h k a q
  · rw [fo_in (by omega)]; exact by4_nn _ _
theorem fd_nn {τ : eS} {L a b c d e : Int} (h : ∀ k, 0 ≤ k → k < L → 0 ≤ τ 5 k) : ∀ k, 0 ≤ k → k < L + 20 → 0 ≤ fd τ L a b c d e 5 k := by
  unfold fd
  have h1 := fo_nn (v := a) (i := 4) h
  have h2 := fo_nn (v := b) (i := 4) h1
  have h3 := fo_nn (v := c) (i := 4) (t := L + 8) (fun k x y => h2 k x (by omega))
  have h4 := fo_nn (v := d) (i := 4) (t := L + 12) (fun k x y => h3 k x (by omega))
  have h5 := fo_nn (v := e) (i := 4) (t := L + 16) (fun k x y => h4 k x (by omega))
  exact fun k x y => h5 k x (by omega)
end
section
/-! WHAT IS MADE OF TABLES: in least terms, or refused -/
def isG (g b n : Int) (f : Int → Int → Int) : Prop := 1 ≤ g ∧ g ∣ b ∧ (∀ i j, 0 ≤ i → i < n → 0 ≤ j → j < n → g ∣ f i j) ∧ ∀ m : Int, m ∣ b → (∀ i j, 0 ≤ i → i < n → 0 ≤ j → j < n → m ∣ f i j) → m ∣ g
theorem isG_un {g g' b n : Int} {f f' : Int → Int → Int} (h : isG g b n f) (h' : isG g' b n f') (e : ∀ i j, 0 ≤ i → i < n → 0 ≤ j → j < n → f i j = f' i j) : g = g' := by
  obtain ⟨a1, a2, a3, a4⟩ := h
  obtain ⟨b1, b2, b3, b4⟩ := h'
  have x := b4 g a2 (fun i j p q r s => by rw [← e i j p q r s]; exact a3 i j p q r s)
  have y := a4 g' b2 (fun i j p q r s => by rw [e i j p q r s]; exact b3 i j p q r s)
  have := Int.le_of_dvd (by omega) x
  have := Int.le_of_dvd (by omega) y
  omega
def fitM (g b n : Int) (f : Int → Int → Int) : Prop := b / g ≤ 999999 ∧ ∀ i j, 0 ≤ i → i < n → 0 ≤ j → j < n → f i j / g ≤ 99999999
theorem fitM_cg {g b n : Int} {f f' : Int → Int → Int} (e : ∀ i j, 0 ≤ i → i < n → 0 ≤ j → j < n → f i j = f' i j) : fitM g b n f ↔ fitM g b n f' :=
  ⟨fun h => ⟨h.1, fun i j p q r s => by rw [← e i j p q r s]; exact h.2 i j p q r s⟩, fun h => ⟨h.1, fun i j p q r s => by rw [e i j p q r s]; exact h.2 i j p q r s⟩⟩
/-- of the class: made into the table t -/
def MA (σ : eS) (t : Nat) (n b : Int) (f : Int → Int → Int) (σ' : eS) (z : Int) : Prop := ∃ g, isG g b n f ∧ ((z = 0 ∧ ¬ fitM g b n f ∧ tbS σ σ') ∨ (z = 1 ∧ fitM g b n f ∧ σ' t 1 = n ∧ σ' t 2 = b / g ∧ (∀ i j, 0 ≤ i → i < n → 0 ≤ j → j < n → σ' (t + 4) (i * 8 + j) = f i j / g) ∧ tbX σ σ' t))
/-- of the reference: made into the slot s -/
def MB (σ : eS) (s n b : Int) (f : Int → Int → Int) (σ' : eS) (z : Int) : Prop := ∃ g, isG g b n f ∧ ((z = 0 ∧ ¬ fitM g b n f ∧ tbK σ σ') ∨ (z = 1 ∧ fitM g b n f ∧ (∀ k, σ' 1 k = if k = s then n else σ 1 k) ∧ (∀ k, σ' 2 k = if k = s then b / g else σ 2 k) ∧ (∀ k, ¬ (64 * s ≤ k ∧ k < 64 * s + n * n) → σ' 3 k = σ 3 k) ∧ ∀ i j, 0 ≤ i → i < n → 0 ≤ j → j < n → σ' 3 (64 * s + (n * i + j)) = f i j / g))
abbrev suF (σ : eS) : Int → Int → Int := fun i j => σ 15 (i * 8 + j)
theorem gcd_or {a b : Int} (ha : 1 ≤ a) : 1 ≤ (Int.gcd a b : Int) ∧ (Int.gcd a b : Int) ∣ a ∧ (Int.gcd a b : Int) ∣ b := ⟨(gcd_pos (by omega)).1, Int.gcd_dvd_left _ _, Int.gcd_dvd_right _ _⟩
theorem dvd_1 {a m : Int} (h : a ≤ 1) (h1 : 1 ≤ a) : a ∣ m := by rw [show a = 1 by omega]; exact Int.one_dvd m
theorem t_Mk_sharedDivisor {σ : eS} {b n : Int} (hb : 1 ≤ b) (hn : 0 ≤ n ∧ n ≤ 8) (hS : iSu σ) : MtL shA M_Mk_sharedDivisor [vr 14, vl b, vi n] σ (fun σ' z => σ' = σ ∧ isG z b n (suF σ)) := by
  refine Mt.of okM_Mk_sharedDivisor (Nat.le_of_ble_eq_true rfl) (fun hk hg => ?_)
  refine ok_lload_n 0 rfl rfl rfl (ok_lst4 1 rfl rfl rfl (ok_iconst 2 rfl rfl (by decide) (ok_ist6 3 rfl rfl rfl ?_)))
  refine lpO2 (fun v i : Int => [some (vr 14), some (vl b), none, some (vi n), some (vl v), none, some (vi i), none]) (fun _ _ => σ) (fun v i => 0 ≤ i ∧ i ≤ n ∧ 1 ≤ v ∧ v ∣ b ∧ (∀ x y, 0 ≤ x → x < i → 0 ≤ y → y < n → v ∣ σ 15 (x * 8 + y)) ∧ ∀ m : Int, m ∣ b → (∀ x y, 0 ≤ x → x < i → 0 ≤ y → y < n → m ∣ σ 15 (x * 8 + y)) → m ∣ v) (fun _ i => (8 - i).toNat) ?_ b 0 ⟨by omega, by omega, hb, Int.dvd_refl _, fun x y p q => by omega, fun m p _ => p⟩
  rintro v i ⟨i1, i2, v1, v2, v3, v4⟩ ih
  refine ok_iload 4 rfl rfl rfl (ok_iload_n 5 rfl rfl rfl (ok_icmp_ge 6 60 rfl rfl rfl (fun h9 => ?_) (fun h9 => ?_)))
  · refine ok_lload 31 rfl rfl rfl (ok_lret 32 rfl rfl rfl ?_)
    exact ⟨_, rfl, rfl, v1, v2, fun x y p q r s => v3 x y p (by omega) r s, fun m p q => v4 m p (fun x y a c d e => q x y a (by omega) d e)⟩
  · refine ok_iconst 7 rfl rfl (by decide) (ok_ist7 8 rfl rfl rfl ?_)
    have il : i < n := by omega
    refine lpO2 (fun v j : Int => [some (vr 14), some (vl b), none, some (vi n), some (vl v), none, some (vi i), some (vi j)]) (fun _ _ => σ) (fun v j => 0 ≤ j ∧ j ≤ 8 ∧ 1 ≤ v ∧ v ∣ b ∧ (∀ x y, 0 ≤ x → 0 ≤ y → y < n → (x < i ∨ (x = i ∧ y < j)) → v ∣ σ 15 (x * 8 + y)) ∧ ∀ m : Int, m ∣ b → (∀ x y, 0 ≤ x → 0 ≤ y → y < n → (x < i ∨ (x = i ∧ y < j)) → m ∣ σ 15 (x * 8 + y)) → m ∣ v) (fun _ j => (8 - j).toNat) ?_ v 0 ⟨by omega, by omega, v1, v2, fun x y p q r s => v3 x y p (by omega) q r, fun m p q => v4 m p (fun x y a c d e => q x y a d e (Or.inl c))⟩
    clear v1 v2 v3 v4 v
    rintro v j ⟨j1, j2, v1, v2, v3, v4⟩ ih2
    refine ok_iload 9 rfl rfl rfl (ok_iload_n 10 rfl rfl rfl (ok_icmp_ge 11 54 rfl rfl rfl (fun h18 => ?_) (fun h18 => ?_)))
    · refine ok_inc6 29 rfl rfl rfl (by first | omega | (simp [up_if]; omega) | (simp [up_if] at *; omega)) (ok_goto 30 6 rfl rfl rfl ?_)
      refine ok_fg [some (vr 14), some (vl b), none, some (vi n), some (vl _), none, some (vi (i + 1)), none] ⟨rfl, rfl, rfl, rfl, rfl, trivial⟩ (ih _ (i + 1) ⟨by omega, by omega, v1, v2, fun x y p q r s => ?_, fun m p q => ?_⟩ (by omega))
      · first | exact v3 x y p r s (by omega) | exact dvd_1 (by omega) v1
      · exact v4 m p (fun x y a c d e => q x y a (by omega) c d)
    · refine ok_lload 12 rfl rfl rfl (ok_lconst (w := 1) 13 rfl rfl rfl (by decide) (ok_lcmp_le 14 15 54 rfl rfl rfl rfl rfl (fun h24 => ?_) (fun h24 => ?_)))
      · refine ok_inc6 29 rfl rfl rfl (by first | omega | (simp [up_if]; omega) | (simp [up_if] at *; omega)) (ok_goto 30 6 rfl rfl rfl ?_)
        refine ok_fg [some (vr 14), some (vl b), none, some (vi n), some (vl _), none, some (vi (i + 1)), none] ⟨rfl, rfl, rfl, rfl, rfl, trivial⟩ (ih _ (i + 1) ⟨by omega, by omega, v1, v2, fun x y p q r s => ?_, fun m p q => ?_⟩ (by omega))
        · first | exact v3 x y p r s (by omega) | exact dvd_1 (by omega) v1
        · exact v4 m p (fun x y a c d e => q x y a (by omega) c d)
      · have s1 := hS (i * 8 + j) (by omega) (by omega)
        have s2 := (hg 15 (i * 8 + j)).1.2
        refine ok_lload 16 rfl rfl rfl (ok_aload_n 17 rfl rfl rfl (ok_getR 18 rfl rfl fl_X2_9 rfl rfl (ok_iload 19 rfl rfl rfl (ok_bipush 20 rfl rfl (by decide) (by decide) (ok_imul 21 rfl rfl (by first | omega | (simp [up_if]; omega) | (simp [up_if] at *; omega)) (ok_iload 22 rfl rfl rfl (ok_iadd 23 rfl rfl (by first | omega | (simp [up_if]; omega) | (simp [up_if] at *; omega)) (ok_lald 24 rfl rfl rfl (by first | omega | (simp [up_if]; omega) | (simp [up_if] at *; omega)) (ok_callSL (M' := M_Nu_greatestDivisor) (as := [_, _]) 25 rfl rfl ml_X2_66 (s_Nu_greatestDivisor (by omega) ⟨s1, by omega⟩) ⟨Nat.le_of_ble_eq_true rfl, Nat.le_of_ble_eq_true rfl⟩ rfl (Nat.le_of_ble_eq_true rfl) (fun σ' z hz => ?_))))))))))
        rw [hz.1, hz.2]
        clear hz z σ'
        refine ok_lst4 26 rfl rfl rfl (ok_inc7 27 rfl rfl rfl (by first | omega | (simp [up_if]; omega) | (simp [up_if] at *; omega)) (ok_goto 28 15 rfl rfl rfl ?_))
        obtain ⟨d1, d2, d3⟩ := gcd_or (b := σ 15 (i * 8 + j)) v1
        refine ih2 _ (j + 1) ⟨by omega, by omega, d1, Int.dvd_trans d2 v2, fun x y p q r s => ?_, fun m p q => ?_⟩ (by omega)
        · rcases (by omega : (x < i ∨ (x = i ∧ y < j)) ∨ (x = i ∧ y = j)) with w | w
          · exact Int.dvd_trans d2 (v3 x y p q r w)
          · rw [w.1, w.2]; exact d3
        · exact Int.dvd_coe_gcd (v4 m p (fun x y a c d e => q x y a c d (by omega))) (q i j i1 j1 (by omega) (by omega))
theorem t_Mk_areCells {σ : eS} {g n : Int} (hg1 : 1 ≤ g) (hn : n ≤ 8) (hS : iSu σ) : MtI shA M_Mk_areCells [vr 14, vl g, vi n] σ (fun σ' z => σ' = σ ∧ ((z = 0 ∧ ¬ cS σ g n) ∨ (z = 1 ∧ cS σ g n))) := by
  refine Mt.of okM_Mk_areCells (Nat.le_of_ble_eq_true rfl) (fun hk hg => ?_)
  refine ok_iconst 0 rfl rfl (by decide) (ok_ist4 1 rfl rfl rfl ?_)
  refine lpO (fun i : Int => [some (vr 14), some (vl g), none, some (vi n), some (vi i), none]) (fun _ => σ) (fun i => 0 ≤ i ∧ i ≤ 8 ∧ ∀ k j, 0 ≤ k → k < i → 0 ≤ j → j < n → σ 15 (k * 8 + j) / g ≤ 99999999) (fun i => (8 - i).toNat) ?_ 0 ⟨by omega, by omega, fun k j a b => by omega⟩
  rintro i ⟨i1, i2, hi⟩ ih
  refine ok_iload 2 rfl rfl rfl (ok_iload_n 3 rfl rfl rfl (ok_icmp_ge 4 54 rfl rfl rfl (fun h6 => ?_) (fun h6 => ?_)))
  · refine ok_iconst 29 rfl rfl (by decide) (ok_zret 30 rfl rfl rfl (by first | omega | (simp [up_if]; omega) | (simp [up_if] at *; omega)) ?_)
    exact ⟨_, rfl, rfl, Or.inr ⟨rfl, fun k j a b c d => hi k j a (by omega) c d⟩⟩
  · refine ok_iconst 5 rfl rfl (by decide) (ok_ist5 6 rfl rfl rfl ?_)
    have il : i < n := by omega
    refine lpO (fun j : Int => [some (vr 14), some (vl g), none, some (vi n), some (vi i), some (vi j)]) (fun _ => σ) (fun j => 0 ≤ j ∧ j ≤ 8 ∧ ∀ k, 0 ≤ k → k < j → σ 15 (i * 8 + k) / g ≤ 99999999) (fun j => (8 - j).toNat) ?_ 0 ⟨by omega, by omega, fun k a b => by omega⟩
    rintro j ⟨j1, j2, hj⟩ ih2
    refine ok_iload 7 rfl rfl rfl (ok_iload_n 8 rfl rfl rfl (ok_icmp_ge 9 48 rfl rfl rfl (fun h15 => ?_) (fun h15 => ?_)))
    · refine ok_inc4 27 rfl rfl rfl (by first | omega | (simp [up_if]; omega) | (simp [up_if] at *; omega)) (ok_goto 28 3 rfl rfl rfl ?_)
      exact ok_fg [some (vr 14), some (vl g), none, some (vi n), some (vi (i + 1)), none] ⟨rfl, rfl, rfl, rfl, trivial⟩ (ih (i + 1) ⟨by omega, by omega, fun k l a b c d => up_to (P := fun k => ∀ l, 0 ≤ l → l < n → σ 15 (k * 8 + l) / g ≤ 99999999) (fun k a b l c d => hi k l a b c d) (fun l c d => hj l c (by omega)) k a b l c d⟩ (by omega))
    · have s1 := hS (i * 8 + j) (by omega) (by omega)
      refine ok_aload_n 10 rfl rfl rfl (ok_getR 11 rfl rfl fl_X2_9 rfl rfl (ok_iload 12 rfl rfl rfl (ok_bipush 13 rfl rfl (by decide) (by decide) (ok_imul 14 rfl rfl (by first | omega | (simp [up_if]; omega) | (simp [up_if] at *; omega)) (ok_iload 15 rfl rfl rfl (ok_iadd 16 rfl rfl (by first | omega | (simp [up_if]; omega) | (simp [up_if] at *; omega)) (ok_lald 17 rfl rfl rfl (by first | omega | (simp [up_if]; omega) | (simp [up_if] at *; omega)) (ok_lload_n 18 rfl rfl rfl (ok_ldiv 19 rfl rfl (by first | omega | (simp [up_if]; omega) | (simp [up_if] at *; omega)) (by first | omega | (simp [up_if]; omega) | (simp [up_if] at *; omega)) (ok_ldc2 20 (99999999) rfl rfl kc_X2_69 (by decide) (ok_lcmp_le 21 22 42 rfl rfl rfl rfl rfl (fun h36 => ?_) (fun h36 => ?_))))))))))))
      · refine ok_inc5 25 rfl rfl rfl (by first | omega | (simp [up_if]; omega) | (simp [up_if] at *; omega)) (ok_goto 26 12 rfl rfl rfl ?_)
        exact ih2 (j + 1) ⟨by omega, by omega, up_to hj (by omega)⟩ (by omega)
      · refine ok_iconst 23 rfl rfl (by decide) (ok_zret 24 rfl rfl rfl (by first | omega | (simp [up_if]; omega) | (simp [up_if] at *; omega)) ?_)
        exact ⟨_, rfl, rfl, Or.inl ⟨rfl, fun q => by have := q i j i1 il j1 (by omega); omega⟩⟩
theorem t_Mk_bring {σ : eS} {t : Nat} {b n : Int} (ht : tA t) (hb : 1 ≤ b) (hn : 0 ≤ n ∧ n ≤ 8) (hS : iSu σ) (hT : iT σ t) (hM : mT σ t) : MtI shA M_Mk_bring [vr 14, vl b, vi n, vr t] σ (fun σ' z => fr (rgBr t) σ σ' ∧ iT σ' t ∧ mT σ' t ∧ (z = 0 ∨ z = 1) ∧ MA σ t n b (suF σ) σ' z) := by
  refine Mt.of okM_Mk_bring (Nat.le_of_ble_eq_true rfl) (fun hk hg => ?_)
  have nA := tA_10 ht
  refine ok_aload_n 0 rfl rfl rfl (ok_lload_n 1 rfl rfl rfl (ok_iload_n 2 rfl rfl rfl (ok_callVL (M' := M_Mk_sharedDivisor) (as := [_, _]) 3 rfl rfl ml_X2_52 (t_Mk_sharedDivisor hb hn hS) rfl rfl (Nat.le_of_ble_eq_true rfl) ⟨Nat.le_of_ble_eq_true rfl, Nat.le_of_ble_eq_true rfl⟩ rfl (Nat.le_of_ble_eq_true rfl) (fun σ' g hz => ?_))))
  obtain ⟨hs_, hz⟩ := hz
  rw [hs_]; clear hs_ σ'
  refine ok_lst5 4 rfl rfl rfl (ok_lload 5 rfl rfl rfl (ok_lconst (w := 1) 6 rfl rfl rfl (by decide) (ok_lcmp_lt 7 8 36 rfl rfl rfl rfl rfl (fun h11 => ?_) (fun h11 => ?_))))
  · exact absurd hz.1 (by omega)
  · refine ok_lload_n 9 rfl rfl rfl (ok_lload 10 rfl rfl rfl (ok_ldiv 11 rfl rfl (by first | omega | (simp [up_if]; omega) | (simp [up_if] at *; omega)) (by first | omega | (simp [up_if]; omega) | (simp [up_if] at *; omega)) (ok_ldc2 12 (999999) rfl rfl kc_X2_56 (by decide) (ok_lcmp_gt 13 14 36 rfl rfl rfl rfl rfl (fun h22 => ?_) (fun h22 => ?_)))))
    · refine ok_iconst 20 rfl rfl (by decide) (ok_zret 21 rfl rfl rfl (by first | omega | (simp [up_if]; omega) | (simp [up_if] at *; omega)) ?_)
      exact ⟨_, rfl, fr.rf, hT, hM, Or.inl rfl, g, hz, Or.inl ⟨rfl, fun q => by have := q.1; omega, fun _ _ _ _ _ => rfl⟩⟩
    · refine ok_aload_n 15 rfl rfl rfl (ok_lload 16 rfl rfl rfl (ok_iload_n 17 rfl rfl rfl (ok_callVI (M' := M_Mk_areCells) (as := [_, _]) 18 rfl rfl ml_X2_58 (t_Mk_areCells (by omega) hn.2 hS) rfl rfl (Nat.le_of_ble_eq_true rfl) ⟨Nat.le_of_ble_eq_true rfl, Nat.le_of_ble_eq_true rfl⟩ rfl (Nat.le_of_ble_eq_true rfl) (fun σ' z1 hz1 => ?_))))
      obtain ⟨hs_, hz1⟩ := hz1
      rw [hs_]; clear hs_ σ'
      refine ok_if_ne 19 38 rfl rfl rfl (fun h33 => ?_) (fun h33 => ?_)
      · have hc : cS σ g n := by
          rcases hz1 with q | q
          · exact absurd q.1 h33
          · exact q.2
        clear hz1 h33
        refine ok_iconst 22 rfl rfl (by decide) (ok_ist7 23 rfl rfl rfl ?_)
        refine lpO2 (fun (i : Int) (_ : eS) => [some (vr 14), some (vl b), none, some (vi n), some (vr t), some (vl g), none, some (vi i), none, none]) (fun _ ρ => ρ) (fun i ρ => 0 ≤ i ∧ i ≤ 8 ∧ fr (fun c _ => c = t + 4) σ ρ ∧ (∀ k, 0 ≤ k → k < 64 → 0 ≤ ρ (t + 4) k ∧ ρ (t + 4) k ≤ 99999999) ∧ ∀ x y, 0 ≤ x → x < i → 0 ≤ y → y < n → ρ (t + 4) (x * 8 + y) = σ 15 (x * 8 + y) / g) (fun i _ => (8 - i).toNat) ?_ 0 σ ⟨by omega, by omega, fr.rf, hT.2.2.2, fun x y p q => by omega⟩
        rintro i ρ ⟨i1, i2, f, hcc, hx⟩ ih
        refine ok_iload 24 rfl rfl rfl (ok_iload_n 25 rfl rfl rfl (ok_icmp_ge 26 97 rfl rfl rfl (fun h44 => ?_) (fun h44 => ?_)))
        · have dd : 0 ≤ b / g := Int.ediv_nonneg (by omega) (by omega)
          have d1 : 1 ≤ b / g := Int.le_ediv_of_mul_le (by have := hz.1; omega) (by have := Int.le_of_dvd (by omega) hz.2.1; omega)
          refine ok_aload 53 rfl rfl rfl (ok_iload_n 54 rfl rfl rfl (ok_lload_n 55 rfl rfl rfl (ok_lload 56 rfl rfl rfl (ok_ldiv 57 rfl rfl (by first | omega | (simp [up_if]; omega) | (simp [up_if] at *; omega)) (by first | omega | (simp [up_if]; omega) | (simp [up_if] at *; omega)) (ok_l2i 58 rfl rfl (by first | omega | (simp [up_if]; omega) | (simp [up_if] at *; omega)) (ok_callVV (M' := M_Ta_settle) (as := [_, _]) 59 rfl rfl ml_X2_62 (s_Ta_settle ht hn (by omega) hcc) (sT ht) rfl (Nat.le_of_ble_eq_true rfl) ⟨Nat.le_of_ble_eq_true rfl, Nat.le_of_ble_eq_true rfl⟩ rfl (Nat.le_of_ble_eq_true rfl) (fun τ hs => ?_)))))))
          refine ok_iconst 60 rfl rfl (by decide) (ok_zret 61 rfl rfl rfl (by first | omega | (simp [up_if]; omega) | (simp [up_if] at *; omega)) ?_)
          refine ⟨_, rfl, (f.mono (fun c k q => by simp only [rgBr]; omega)).tr (hs.1.mono (fun c k q => by simp only [rgT1, rgBr] at q ⊢; omega)), hs.2.1, hs.2.2.1, Or.inr rfl, g, hz, Or.inr ⟨rfl, ⟨by omega, hc⟩, hs.2.2.2.1, by rw [hs.2.2.2.2.1]; omega, fun x y p q r s => ?_, fun c k a1 a2 a3 a4 => ?_, hs.2.2.2.2.2.1, hs.2.2.2.2.2.2⟩⟩
          · rw [hs.1 (t + 4) _ (by simp only [rgT1]; omega)]; exact hx x y p (by omega) r s
          · rw [hs.1 c k (by simp only [rgT1]; omega)]; exact f c k (by omega)
        · refine ok_iconst 27 rfl rfl (by decide) (ok_ist8 28 rfl rfl rfl ?_)
          have il : i < n := by omega
          clear h44
          refine lpO2 (fun (j : Int) (_ : eS) => [some (vr 14), some (vl b), none, some (vi n), some (vr t), some (vl g), none, some (vi i), some (vi j), none]) (fun _ ρ => ρ) (fun j ρ => 0 ≤ j ∧ j ≤ 8 ∧ fr (fun c _ => c = t + 4) σ ρ ∧ (∀ k, 0 ≤ k → k < 64 → 0 ≤ ρ (t + 4) k ∧ ρ (t + 4) k ≤ 99999999) ∧ ∀ x y, 0 ≤ x → 0 ≤ y → y < n → (x < i ∨ (x = i ∧ y < j)) → ρ (t + 4) (x * 8 + y) = σ 15 (x * 8 + y) / g) (fun j _ => (8 - j).toNat) ?_ 0 ρ ⟨by omega, by omega, f, hcc, fun x y p q r s => hx x y p (by omega) q r⟩
          clear f hcc hx ρ
          rintro j ρ ⟨j1, j2, f, hcc, hx⟩ ih2
          have e15 : ρ 15 (i * 8 + j) = σ 15 (i * 8 + j) := f 15 _ (by omega)
          refine ok_iload 29 rfl rfl rfl (ok_iload_n 30 rfl rfl rfl (ok_icmp_ge 31 91 rfl rfl rfl (fun h53 => ?_) (fun h53 => ?_)))
          · refine ok_inc7 51 rfl rfl rfl (by first | omega | (simp [up_if]; omega) | (simp [up_if] at *; omega)) (ok_goto 52 41 rfl rfl rfl ?_)
            exact ok_fg [some (vr 14), some (vl b), none, some (vi n), some (vr t), some (vl g), none, some (vi (i + 1)), none, none] ⟨rfl, rfl, rfl, rfl, rfl, rfl, trivial⟩ (ih (i + 1) ρ ⟨by omega, by omega, f, hcc, fun x y p q r s => hx x y p r s (by omega)⟩ (by omega))
          · have s1 : 0 ≤ ρ 15 (i * 8 + j) := by rw [e15]; exact hS _ (by omega) (by omega)
            have d1 := hc i j i1 il j1 (by omega)
            rw [← e15] at d1
            have d0 : 0 ≤ ρ 15 (i * 8 + j) / g := Int.ediv_nonneg s1 (by omega)
            refine ok_iload 32 rfl rfl rfl (ok_bipush 33 rfl rfl (by decide) (by decide) (ok_imul 34 rfl rfl (by first | omega | (simp [up_if]; omega) | (simp [up_if] at *; omega)) (ok_iload 35 rfl rfl rfl (ok_iadd 36 rfl rfl (by first | omega | (simp [up_if]; omega) | (simp [up_if] at *; omega)) (ok_ist9 37 rfl rfl rfl (ok_aload 38 rfl rfl rfl (ok_getR 39 rfl rfl fl_X2_34 (sT ht) rfl (ok_iload 40 rfl rfl rfl (ok_aload_n 41 rfl rfl rfl (ok_getR 42 rfl rfl fl_X2_9 rfl rfl (ok_iload 43 rfl rfl rfl (ok_lald 44 rfl rfl rfl (by first | omega | (simp [up_if]; omega) | (simp [up_if] at *; omega)) (ok_lload 45 rfl rfl rfl (ok_ldiv 46 rfl rfl (by first | omega | (simp [up_if]; omega) | (simp [up_if] at *; omega)) (by first | omega | (simp [up_if]; omega) | (simp [up_if] at *; omega)) (ok_l2i 47 rfl rfl (by first | omega | (simp [up_if]; omega) | (simp [up_if] at *; omega)) (ok_iast 48 rfl rfl (sC ht) (by first | omega | (simp [up_if]; omega) | (simp [up_if] at *; omega)) (ok_inc8 49 rfl rfl rfl (by first | omega | (simp [up_if]; omega) | (simp [up_if] at *; omega)) (ok_goto 50 50 rfl rfl rfl ?_))))))))))))))))))
            refine ok_fg [some (vr 14), some (vl b), none, some (vi n), some (vr t), some (vl g), none, some (vi i), some (vi (j + 1)), none] ⟨rfl, rfl, rfl, rfl, rfl, rfl, rfl, trivial⟩ (ih2 (j + 1) _ ⟨by omega, by omega, fr_up f rfl, fun k a c => ?_, fun x y p q r s => ?_⟩ (by omega))
            · rw [up_if]
              by_cases q : k = i * 8 + j
              · rw [if_pos ⟨rfl, q⟩]; exact ⟨d0, d1⟩
              · rw [if_neg (fun y => q y.2)]; exact hcc k a c
            · rcases (by omega : (x < i ∨ (x = i ∧ y < j)) ∨ (x = i ∧ y = j)) with w | w
              · rw [up_nk _ _ _ _ (by omega)]; exact hx x y p q r w
              · rw [w.1, w.2, up_same, e15]
      · refine ok_iconst 20 rfl rfl (by decide) (ok_zret 21 rfl rfl rfl (by first | omega | (simp [up_if]; omega) | (simp [up_if] at *; omega)) ?_)
        refine ⟨_, rfl, fr.rf, hT, hM, Or.inl rfl, g, hz, Or.inl ⟨rfl, fun q => ?_, fun _ _ _ _ _ => rfl⟩⟩
        rcases hz1 with w | w
        · exact w.2 q.2
        · omega
end
section
theorem isG_cg {g b n : Int} {f f' : Int → Int → Int} (h : isG g b n f) (e : ∀ i j, 0 ≤ i → i < n → 0 ≤ j → j < n → f i j = f' i j) : isG g b n f' :=
  ⟨h.1, h.2.1, fun i j p q r s => by rw [← e i j p q r s]; exact h.2.2.1 i j p q r s, fun m p q => h.2.2.2 m p (fun i j a c d w => by rw [e i j a c d w]; exact q i j a c d w)⟩
theorem MA_cg {σ ρ σ' : eS} {t : Nat} {n b z : Int} {f f' : Int → Int → Int} (h : MA ρ t n b f σ' z) (hr : ∀ c k, 2 ≤ c → c ≤ 9 → ρ c k = σ c k) (e : ∀ i j, 0 ≤ i → i < n → 0 ≤ j → j < n → f i j = f' i j) : MA σ t n b f' σ' z := by
  obtain ⟨g, h1, h2⟩ := h
  refine ⟨g, isG_cg h1 e, ?_⟩
  rcases h2 with ⟨a1, a2, a3⟩ | ⟨a1, a2, a3, a4, a5, a6⟩
  · exact Or.inl ⟨a1, fun q => a2 ((fitM_cg e).mpr q), fun c k x y w => by rw [a3 c k x y w]; exact hr c k x y⟩
  · exact Or.inr ⟨a1, (fitM_cg e).mp a2, a3, a4, fun i j p q r s => by rw [a5 i j p q r s, e i j p q r s], ⟨fun c k x y u w => by rw [a6.1 c k x y u w]; exact hr c k x y, a6.2⟩⟩
theorem t_Mk_multiplied {σ : eS} {p f : Int} (hp : 0 ≤ p) (hf : 0 ≤ f) : MtL shA M_Mk_multiplied [vl p, vl f] σ (fun σ' z => σ' = σ ∧ ((z = -1 ∧ 1000000000000000 < p * f) ∨ (z = p * f ∧ 0 ≤ p * f ∧ p * f ≤ 1000000000000000))) := by
  refine Mt.of okM_Mk_multiplied (Nat.le_of_ble_eq_true rfl) (fun hk hg => ?_)
  refine ok_lload_n 0 rfl rfl rfl (ok_lconst (w := 0) 1 rfl rfl rfl (by decide) (ok_lcmp_ne 2 3 8 rfl rfl rfl rfl rfl (fun h2 => ?_) (fun h2 => ?_)))
  · have p1 : 0 < p := by omega
    refine ok_lload_n 6 rfl rfl rfl (ok_ldc2 7 (1000000000000000) rfl rfl kc_X2_42 (by decide) (ok_lload_n 8 rfl rfl rfl (ok_ldiv 9 rfl rfl (by first | omega | (simp [up_if]; omega) | (simp [up_if] at *; omega)) (by first | omega | (simp [up_if]; omega) | (simp [up_if] at *; omega)) (ok_lcmp_le 10 11 24 rfl rfl rfl rfl rfl (fun h14 => ?_) (fun h14 => ?_)))))
    · have m : p * f ≤ 1000000000000000 := mul_le_div p1 h14
      have m0 : 0 ≤ p * f := Int.mul_nonneg hp hf
      refine ok_lload_n 14 rfl rfl rfl (ok_lload_n 15 rfl rfl rfl (ok_lmul 16 rfl rfl (by first | omega | (simp [up_if]; omega) | (simp [up_if] at *; omega)) (ok_lret 17 rfl rfl rfl ?_)))
      exact ⟨_, rfl, rfl, Or.inr ⟨rfl, m0, m⟩⟩
    · refine ok_ldc2 12 (-1) rfl rfl kc_X2_29 (by decide) (ok_goto 13 27 rfl rfl rfl (ok_lret 17 rfl rfl rfl ?_))
      refine ⟨_, rfl, rfl, Or.inl ⟨rfl, ?_⟩⟩
      rcases (by omega : 1000000000000000 < p * f ∨ p * f ≤ 1000000000000000) with q | q
      · exact q
      · rw [Int.mul_comm] at q
        have := Int.le_ediv_of_mul_le p1 q
        omega
  · refine ok_lconst (w := 0) 4 rfl rfl rfl (by decide) (ok_lret 5 rfl rfl rfl ?_)
    have p0 : p * f = 0 := by rw [show p = 0 by omega, Int.zero_mul]
    exact ⟨_, rfl, rfl, Or.inr ⟨by omega, by omega, by omega⟩⟩
/-- what a mixture's cells are, over the common number -/
def mxF (σ : eS) (t u : Nat) (x d a e : Int) : Int → Int → Int := fun i j => x * cT σ t i j * d + a * cT σ u i j * e
def MXA (σ : eS) (t u v : Nat) (x y a b : Int) (σ' : eS) (z : Int) : Prop :=
  (z = 0 ∧ tbS σ σ' ∧ lcS (y * σ t 2) (b * σ u 2) 1000000000 = -1) ∨
  (1 ≤ lcS (y * σ t 2) (b * σ u 2) 1000000000 ∧ ((z = 0 ∧ tbS σ σ' ∧ ∃ i j, 0 ≤ i ∧ i < σ t 1 ∧ 0 ≤ j ∧ j < σ t 1 ∧ 1000000000000000 < mxF σ t u x (lcS (y * σ t 2) (b * σ u 2) 1000000000 / (y * σ t 2)) a (lcS (y * σ t 2) (b * σ u 2) 1000000000 / (b * σ u 2)) i j) ∨
   ((∀ i j, 0 ≤ i → i < σ t 1 → 0 ≤ j → j < σ t 1 → mxF σ t u x (lcS (y * σ t 2) (b * σ u 2) 1000000000 / (y * σ t 2)) a (lcS (y * σ t 2) (b * σ u 2) 1000000000 / (b * σ u 2)) i j ≤ 1000000000000000) ∧ MA σ v (σ t 1) (lcS (y * σ t 2) (b * σ u 2) 1000000000) (mxF σ t u x (lcS (y * σ t 2) (b * σ u 2) 1000000000 / (y * σ t 2)) a (lcS (y * σ t 2) (b * σ u 2) 1000000000 / (b * σ u 2))) σ' z)))
theorem t_Mk_makeMixture {σ : eS} {t u v : Nat} {x y a b : Int} (ht : tA t) (hu : tA u) (hv : tA v) (hS : iSu σ) (hT : iT σ t) (hU : iT σ u) (hV : iT σ v) (hM : mT σ v) (hn : σ t 1 ≠ 0) (hnu : σ t 1 = σ u 1) (hx : 0 ≤ x ∧ x ≤ 9999 ∧ 1 ≤ y ∧ y ≤ 9999) (ha : 0 ≤ a ∧ a ≤ 9999 ∧ 1 ≤ b ∧ b ≤ 9999) : MtI shA M_Mk_makeMixture [vr 14, vr t, vi x, vi y, vr u, vi a, vi b, vr v] σ (fun σ' z => (fr (fun c _ => c = 15 ∨ c = v ∨ c = v + 4) σ σ' ∧ iT σ' v ∧ mT σ' v ∧ iSu σ' ∧ (z = 0 ∨ z = 1)) ∧ MXA σ t u v x y a b σ' z) := by
  refine Mt.of okM_Mk_makeMixture (Nat.le_of_ble_eq_true rfl) (fun hk hg => ?_)
  have nA := tA_10 ht
  have nB := tA_10 hu
  have nC := tA_10 hv
  have n1 := hT.1
  have n2 := hT.2.1
  have hB := hT.2.2.1 (by omega)
  have hB2 := hU.2.2.1 (by omega)
  have m1 := mul_bd2 (a := y) (b := σ t 2) (A := 9999) (B := 999999) ⟨by omega, by omega⟩ ⟨by omega, by omega⟩
  have m2 := mul_bd2 (a := b) (b := σ u 2) (A := 9999) (B := 999999) ⟨by omega, by omega⟩ ⟨by omega, by omega⟩
  have m3 : 0 < y * σ t 2 := Int.mul_pos (by omega) (by omega)
  have m4 : 0 < b * σ u 2 := Int.mul_pos (by omega) (by omega)
  unfold MXA
  refine ok_iload_n 0 rfl rfl rfl (ok_i2l 1 rfl rfl (ok_aload_n 2 rfl rfl rfl (ok_getI 3 rfl rfl fl_X2_15 (sT ht) rfl (Or.inl rfl) (ok_i2l 4 rfl rfl (ok_lmul 5 rfl rfl (by first | omega | (simp [up_if]; omega) | (simp [up_if] at *; omega)) (ok_lst8 6 rfl rfl rfl (ok_iload 7 rfl rfl rfl (ok_i2l 8 rfl rfl (ok_aload 9 rfl rfl rfl (ok_getI 10 rfl rfl fl_X2_15 (sT hu) rfl (Or.inl rfl) (ok_i2l 11 rfl rfl (ok_lmul 12 rfl rfl (by first | omega | (simp [up_if]; omega) | (simp [up_if] at *; omega)) (ok_lst10 13 rfl rfl rfl (ok_lload 14 rfl rfl rfl (ok_lload 15 rfl rfl rfl (ok_ldc2 16 (1000000000) rfl rfl kc_X2_21 (by decide) (ok_callSL (M' := M_Nu_leastMultiple) (as := [_, _, _]) 17 rfl rfl ml_X2_23 (t_Nu_leastMultiple (by omega) (by omega) (by omega)) ⟨Nat.le_of_ble_eq_true rfl, Nat.le_of_ble_eq_true rfl⟩ rfl (Nat.le_of_ble_eq_true rfl) (fun σ' g hg1 => ?_))))))))))))))))))
  obtain ⟨hs_, hg1⟩ := hg1
  rw [hs_]; clear hs_ σ'
  refine ok_lst12 18 rfl rfl rfl (ok_lload 19 rfl rfl rfl (ok_ldc2 20 (-1) rfl rfl kc_X2_29 (by decide) (ok_lcmp_ne 21 22 45 rfl rfl rfl rfl rfl (fun h39 => ?_) (fun h39 => ?_))))
  · have g1 : 1 ≤ g ∧ g ≤ 1000000000 := by omega
    rw [← hg1.1]
    clear hg1
    obtain ⟨p, ep⟩ : ∃ p : Int, p = y * σ t 2 := ⟨_, rfl⟩
    obtain ⟨q, eq⟩ : ∃ q : Int, q = b * σ u 2 := ⟨_, rfl⟩
    rw [← ep, ← eq]
    have d1 : 0 ≤ g / p := Int.ediv_nonneg (by omega) (by omega)
    have d2 : 0 ≤ g / q := Int.ediv_nonneg (by omega) (by omega)
    obtain ⟨d, ed⟩ : ∃ d : Int, d = g / p := ⟨_, rfl⟩
    obtain ⟨e, ee⟩ : ∃ e : Int, e = g / q := ⟨_, rfl⟩
    rw [← ed, ← ee]
    rw [← ed] at d1
    rw [← ee] at d2
    obtain ⟨F, eF⟩ : ∃ F, F = mxF σ t u x d a e := ⟨_, rfl⟩
    have hF : ∀ i j, F i j = x * σ (t + 4) (i * 8 + j) * d + a * σ (u + 4) (i * 8 + j) * e := fun i j => by rw [eF]; rfl
    rw [← eF]
    clear eF
    refine ok_lload 25 rfl rfl rfl (ok_lload 26 rfl rfl rfl (ok_ldiv 27 rfl rfl (by first | omega | (simp [up_if]; omega) | (simp [up_if] at *; omega)) (by first | omega | (simp [up_if]; omega) | (simp [up_if] at *; omega)) (ok_lst14 28 rfl rfl rfl (ok_lload 29 rfl rfl rfl (ok_lload 30 rfl rfl rfl (ok_ldiv 31 rfl rfl (by first | omega | (simp [up_if]; omega) | (simp [up_if] at *; omega)) (by first | omega | (simp [up_if]; omega) | (simp [up_if] at *; omega)) (ok_lst16 32 rfl rfl rfl (ok_iconst 33 rfl rfl (by decide) (ok_ist18 34 rfl rfl rfl ?_)))))))))
    rw [← ed, ← ee]
    refine lpO2 (fun (i : Int) (_ : eS) => [some (vr 14), some (vr t), some (vi x), some (vi y), some (vr u), some (vi a), some (vi b), some (vr v), some (vl p), none, some (vl q), none, some (vl g), none, some (vl d), none, some (vl e), none, some (vi i), none, none, none, none, none, none]) (fun _ ρ => ρ) (fun i ρ => 0 ≤ i ∧ i ≤ 8 ∧ fr rgSu σ ρ ∧ iSu ρ ∧ ∀ X Y, 0 ≤ X → X < i → 0 ≤ Y → Y < σ t 1 → ρ 15 (X * 8 + Y) = F X Y ∧ F X Y ≤ 1000000000000000) (fun i _ => (8 - i).toNat) ?_ 0 σ ⟨by omega, by omega, fr.rf, hS, fun X Y p q => by omega⟩
    clear ed ee ep eq m1 m2 m3 m4 h39
    rintro i ρ ⟨i1, i2, f, hS1, hX⟩ ih
    have e1 : ρ t 1 = σ t 1 := f t 1 (by simp only [rgSu]; omega)
    refine ok_iload 35 rfl rfl rfl (ok_aload_n 36 rfl rfl rfl (ok_getI 37 rfl rfl fl_X2_31 (sT ht) rfl (Or.inl rfl) (ok_icmp_ge 38 187 rfl rfl rfl (fun h68 => ?_) (fun h68 => ?_))))
    · have x1 : ∀ k, ρ (v + 4) k = σ (v + 4) k := fun k => f _ _ (by simp only [rgSu]; omega)
      have x2 : ∀ k, ρ v k = σ v k := fun k => f _ _ (by simp only [rgSu]; omega)
      refine ok_aload_n 100 rfl rfl rfl (ok_lload 101 rfl rfl rfl (ok_aload_n 102 rfl rfl rfl (ok_getI 103 rfl rfl fl_X2_31 (sT ht) rfl (Or.inl rfl) (ok_aload 104 rfl rfl rfl (ok_callVI (M' := M_Mk_bring) (as := [_, _, _]) 105 rfl rfl ml_X2_44 (t_Mk_bring hv (by omega) ⟨by omega, by omega⟩ hS1 (iT_cg hV (x2 1) (x2 2) x1).1 (mT_cg hM (x2 1) (x2 3) x1)) rfl rfl (Nat.le_of_ble_eq_true rfl) ⟨Nat.le_of_ble_eq_true rfl, Nat.le_of_ble_eq_true rfl⟩ rfl (Nat.le_of_ble_eq_true rfl) (fun τ z hz => ?_))))))
      refine ok_zret 106 rfl rfl rfl hz.2.2.2.1 ?_
      refine ⟨_, rfl, ⟨(f.mono (fun c k q => by simp only [rgSu] at q; omega)).tr (hz.1.mono (fun c k q => by simp only [rgBr] at q; omega)), hz.2.1, hz.2.2.1, iSu_cg hS1 (fun k => hz.1 15 k (by simp only [rgBr]; omega)), hz.2.2.2.1⟩, Or.inr ⟨g1.1, Or.inr ⟨fun X Y p q r s => (hX X Y p (by omega) r s).2, ?_⟩⟩⟩
      have hm := hz.2.2.2.2
      rw [e1] at hm
      exact MA_cg hm (fun c k p q => f c k (by simp only [rgSu]; omega)) (fun X Y p q r s => (hX X Y p (by omega) r s).1)
    · refine ok_iconst 39 rfl rfl (by decide) (ok_ist19 40 rfl rfl rfl ?_)
      have il : i < σ t 1 := by omega
      clear h68
      refine lpO2 (fun (j : Int) (_ : eS) => [some (vr 14), some (vr t), some (vi x), some (vi y), some (vr u), some (vi a), some (vi b), some (vr v), some (vl p), none, some (vl q), none, some (vl g), none, some (vl d), none, some (vl e), none, some (vi i), some (vi j), none, none, none, none, none]) (fun _ ρ => ρ) (fun j ρ => 0 ≤ j ∧ j ≤ 8 ∧ fr rgSu σ ρ ∧ iSu ρ ∧ ∀ X Y, 0 ≤ X → 0 ≤ Y → Y < σ t 1 → (X < i ∨ (X = i ∧ Y < j)) → ρ 15 (X * 8 + Y) = F X Y ∧ F X Y ≤ 1000000000000000) (fun j _ => (8 - j).toNat) ?_ 0 ρ ⟨by omega, by omega, f, hS1, fun X Y p q r s => hX X Y p (by omega) q r⟩
      clear e1 f hS1 hX ρ
      rintro j ρ ⟨j1, j2, f, hS1, hX⟩ ih2
      have e1 : ρ t 1 = σ t 1 := f t 1 (by simp only [rgSu]; omega)
      refine ok_iload 41 rfl rfl rfl (ok_aload_n 42 rfl rfl rfl (ok_getI 43 rfl rfl fl_X2_31 (sT ht) rfl (Or.inl rfl) (ok_icmp_ge 44 181 rfl rfl rfl (fun h80 => ?_) (fun h80 => ?_))))
      · refine ok_inc18 98 rfl rfl rfl (by first | omega | (simp [up_if]; omega) | (simp [up_if] at *; omega)) (ok_goto 99 62 rfl rfl rfl ?_)
        exact ok_fg [some (vr 14), some (vr t), some (vi x), some (vi y), some (vr u), some (vi a), some (vi b), some (vr v), some (vl p), none, some (vl q), none, some (vl g), none, some (vl d), none, some (vl e), none, some (vi (i + 1)), none, none, none, none, none, none] ⟨rfl, rfl, rfl, rfl, rfl, rfl, rfl, rfl, rfl, rfl, rfl, rfl, rfl, rfl, trivial⟩ (ih (i + 1) ρ ⟨by omega, by omega, f, hS1, fun X Y p q r s => hX X Y p r s (by omega)⟩ (by omega))
      · have c1 := hT.2.2.2 (i * 8 + j) (by omega) (by omega)
        have q1 : ρ (t + 4) (i * 8 + j) = σ (t + 4) (i * 8 + j) := f (t + 4) (i * 8 + j) (by simp only [rgSu]; omega)
        have q2 : ρ (u + 4) (i * 8 + j) = σ (u + 4) (i * 8 + j) := f (u + 4) (i * 8 + j) (by simp only [rgSu]; omega)
        rw [← q1] at c1
        have c2 := hU.2.2.2 (i * 8 + j) (by omega) (by omega)
        rw [← q2] at c2
        have mm := mul_bd2 (a := x) (b := ρ (t + 4) (i * 8 + j)) (A := 9999) (B := 99999999) ⟨by omega, by omega⟩ c1
        have mm2 := mul_bd2 (a := a) (b := ρ (u + 4) (i * 8 + j)) (A := 9999) (B := 99999999) ⟨by omega, by omega⟩ c2
        have hFi := hF i j
        rw [← q1, ← q2] at hFi
        have k1 := Int.mul_nonneg mm.1 d1
        have k2 := Int.mul_nonneg mm2.1 d2
        refine ok_iload 45 rfl rfl rfl (ok_bipush 46 rfl rfl (by decide) (by decide) (ok_imul 47 rfl rfl (by first | omega | (simp [up_if]; omega) | (simp [up_if] at *; omega)) (ok_iload 48 rfl rfl rfl (ok_iadd 49 rfl rfl (by first | omega | (simp [up_if]; omega) | (simp [up_if] at *; omega)) (ok_ist20 50 rfl rfl rfl (ok_iload_n 51 rfl rfl rfl (ok_i2l 52 rfl rfl (ok_aload_n 53 rfl rfl rfl (ok_getR 54 rfl rfl fl_X2_34 (sT ht) rfl (ok_iload 55 rfl rfl rfl (ok_iald 56 rfl rfl (sC ht) (by first | omega | (simp [up_if]; omega) | (simp [up_if] at *; omega)) (ok_i2l 57 rfl rfl (ok_lmul 58 rfl rfl (by first | omega | (simp [up_if]; omega) | (simp [up_if] at *; omega)) (ok_lload 59 rfl rfl rfl (ok_callSL (M' := M_Mk_multiplied) (as := [_, _]) 60 rfl rfl ml_X2_38 (t_Mk_multiplied mm.1 d1) ⟨Nat.le_of_ble_eq_true rfl, Nat.le_of_ble_eq_true rfl⟩ rfl (Nat.le_of_ble_eq_true rfl) (fun σ' z1 r1 => ?_))))))))))))))))
        obtain ⟨hs_, r1⟩ := r1
        rw [hs_]; clear hs_ σ'
        refine ok_lst21 61 rfl rfl rfl (ok_iload 62 rfl rfl rfl (ok_i2l 63 rfl rfl (ok_aload 64 rfl rfl rfl (ok_getR 65 rfl rfl fl_X2_34 (sT hu) rfl (ok_iload 66 rfl rfl rfl (ok_iald 67 rfl rfl (sC hu) (by first | omega | (simp [up_if]; omega) | (simp [up_if] at *; omega)) (ok_i2l 68 rfl rfl (ok_lmul 69 rfl rfl (by first | omega | (simp [up_if]; omega) | (simp [up_if] at *; omega)) (ok_lload 70 rfl rfl rfl (ok_callSL (M' := M_Mk_multiplied) (as := [_, _]) 71 rfl rfl ml_X2_38 (t_Mk_multiplied mm2.1 d2) ⟨Nat.le_of_ble_eq_true rfl, Nat.le_of_ble_eq_true rfl⟩ rfl (Nat.le_of_ble_eq_true rfl) (fun σ' z2 r2 => ?_)))))))))))
        obtain ⟨hs_, r2⟩ := r2
        rw [hs_]; clear hs_ σ'
        refine ok_lst23 72 rfl rfl rfl (ok_lload 73 rfl rfl rfl (ok_ldc2 74 (-1) rfl rfl kc_X2_29 (by decide) (ok_lcmp_eq 75 76 161 rfl rfl rfl rfl rfl (fun h136 => ?_) (fun h136 => ?_))))
        · refine ok_iconst 87 rfl rfl (by decide) (ok_zret 88 rfl rfl rfl (by first | omega | (simp [up_if]; omega) | (simp [up_if] at *; omega)) ?_)
          refine ⟨_, rfl, ⟨f.mono (fun c k q => by simp only [rgSu] at q; omega), (iT_cg hV (f v 1 (by simp only [rgSu]; omega)) (f v 2 (by simp only [rgSu]; omega)) (fun k => f (v + 4) k (by simp only [rgSu]; omega))).1, mT_cg hM (f v 1 (by simp only [rgSu]; omega)) (f v 3 (by simp only [rgSu]; omega)) (fun k => f (v + 4) k (by simp only [rgSu]; omega)), hS1, Or.inl rfl⟩, Or.inr ⟨g1.1, Or.inl ⟨rfl, fun c k p q r => f c k (by simp only [rgSu]; omega), i, j, i1, il, j1, by omega, by omega⟩⟩⟩
        · refine ok_lload 77 rfl rfl rfl (ok_ldc2 78 (-1) rfl rfl kc_X2_29 (by decide) (ok_lcmp_eq 79 80 161 rfl rfl rfl rfl rfl (fun h145 => ?_) (fun h145 => ?_)))
          · refine ok_iconst 87 rfl rfl (by decide) (ok_zret 88 rfl rfl rfl (by first | omega | (simp [up_if]; omega) | (simp [up_if] at *; omega)) ?_)
            refine ⟨_, rfl, ⟨f.mono (fun c k q => by simp only [rgSu] at q; omega), (iT_cg hV (f v 1 (by simp only [rgSu]; omega)) (f v 2 (by simp only [rgSu]; omega)) (fun k => f (v + 4) k (by simp only [rgSu]; omega))).1, mT_cg hM (f v 1 (by simp only [rgSu]; omega)) (f v 3 (by simp only [rgSu]; omega)) (fun k => f (v + 4) k (by simp only [rgSu]; omega)), hS1, Or.inl rfl⟩, Or.inr ⟨g1.1, Or.inl ⟨rfl, fun c k p q r => f c k (by simp only [rgSu]; omega), i, j, i1, il, j1, by omega, by omega⟩⟩⟩
          · refine ok_lload 81 rfl rfl rfl (ok_lload 82 rfl rfl rfl (ok_ladd 83 rfl rfl (by first | omega | (simp [up_if]; omega) | (simp [up_if] at *; omega)) (ok_ldc2 84 (1000000000000000) rfl rfl kc_X2_42 (by decide) (ok_lcmp_le 85 86 163 rfl rfl rfl rfl rfl (fun h157 => ?_) (fun h157 => ?_)))))
            · refine ok_aload_n 89 rfl rfl rfl (ok_getR 90 rfl rfl fl_X2_9 rfl rfl (ok_iload 91 rfl rfl rfl (ok_lload 92 rfl rfl rfl (ok_lload 93 rfl rfl rfl (ok_ladd 94 rfl rfl (by first | omega | (simp [up_if]; omega) | (simp [up_if] at *; omega)) (ok_last 95 rfl rfl rfl (by first | omega | (simp [up_if]; omega) | (simp [up_if] at *; omega)) (ok_inc19 96 rfl rfl rfl (by first | omega | (simp [up_if]; omega) | (simp [up_if] at *; omega)) (ok_goto 97 74 rfl rfl rfl ?_))))))))
              refine ok_fg [some (vr 14), some (vr t), some (vi x), some (vi y), some (vr u), some (vi a), some (vi b), some (vr v), some (vl p), none, some (vl q), none, some (vl g), none, some (vl d), none, some (vl e), none, some (vi i), some (vi (j + 1)), none, none, none, none, none] ⟨rfl, rfl, rfl, rfl, rfl, rfl, rfl, rfl, rfl, rfl, rfl, rfl, rfl, rfl, rfl, trivial⟩ (ih2 (j + 1) _ ⟨by omega, by omega, fr_up f rfl, up_su hS1 (by omega), fun X Y p q r s => ?_⟩ (by omega))
              rcases (by omega : (X < i ∨ (X = i ∧ Y < j)) ∨ (X = i ∧ Y = j)) with w | w
              · rw [up_nk _ _ _ _ (by omega)]; exact hX X Y p q r w
              · rw [w.1, w.2, up_same]; exact ⟨by omega, by omega⟩
            · refine ok_iconst 87 rfl rfl (by decide) (ok_zret 88 rfl rfl rfl (by first | omega | (simp [up_if]; omega) | (simp [up_if] at *; omega)) ?_)
              refine ⟨_, rfl, ⟨f.mono (fun c k q => by simp only [rgSu] at q; omega), (iT_cg hV (f v 1 (by simp only [rgSu]; omega)) (f v 2 (by simp only [rgSu]; omega)) (fun k => f (v + 4) k (by simp only [rgSu]; omega))).1, mT_cg hM (f v 1 (by simp only [rgSu]; omega)) (f v 3 (by simp only [rgSu]; omega)) (fun k => f (v + 4) k (by simp only [rgSu]; omega)), hS1, Or.inl rfl⟩, Or.inr ⟨g1.1, Or.inl ⟨rfl, fun c k p q r => f c k (by simp only [rgSu]; omega), i, j, i1, il, j1, by omega, by omega⟩⟩⟩
  · refine ok_iconst 23 rfl rfl (by decide) (ok_zret 24 rfl rfl rfl (by first | omega | (simp [up_if]; omega) | (simp [up_if] at *; omega)) ?_)
    exact ⟨_, rfl, ⟨fr.rf, hV, hM, hS, Or.inl rfl⟩, Or.inl ⟨rfl, fun _ _ _ _ _ => rfl, by omega⟩⟩
def pdF (σ : eS) (t u : Nat) : Int → Int → Int := fun i j => sm (fun k => cT σ t i k * cT σ u k j) (σ t 1).toNat
theorem t_Mk_makeProduct {σ : eS} {t u v : Nat} (ht : tA t) (hu : tA u) (hv : tA v) (hS : iSu σ) (hT : iT σ t) (hU : iT σ u) (hV : iT σ v) (hM : mT σ v) (hn : σ t 1 ≠ 0) (hnu : σ t 1 = σ u 1) : MtI shA M_Mk_makeProduct [vr 14, vr t, vr u, vr v] σ (fun σ' z => (fr (fun c _ => c = 15 ∨ c = v ∨ c = v + 4) σ σ' ∧ iT σ' v ∧ mT σ' v ∧ iSu σ' ∧ (z = 0 ∨ z = 1)) ∧ MA σ v (σ t 1) (σ t 2 * σ u 2) (pdF σ t u) σ' z) := by
  refine Mt.of okM_Mk_makeProduct (Nat.le_of_ble_eq_true rfl) (fun hk hg => ?_)
  have nA := tA_10 ht
  have nB := tA_10 hu
  have nC := tA_10 hv
  have n1 := hT.1
  have n2 := hT.2.1
  have hB := hT.2.2.1 (by omega)
  have hB2 := hU.2.2.1 (by omega)
  refine ok_iconst 0 rfl rfl (by decide) (ok_ist4 1 rfl rfl rfl ?_)
  refine lpO2 (fun (i : Int) (_ : eS) => [some (vr 14), some (vr t), some (vr u), some (vr v), some (vi i), none, none, none, none]) (fun _ ρ => ρ) (fun i ρ => 0 ≤ i ∧ i ≤ 8 ∧ fr rgSu σ ρ ∧ iSu ρ ∧ ∀ X Y, 0 ≤ X → X < i → 0 ≤ Y → Y < σ t 1 → ρ 15 (X * 8 + Y) = pdF σ t u X Y) (fun i _ => (8 - i).toNat) ?_ 0 σ ⟨by omega, by omega, fr.rf, hS, fun X Y p q => by omega⟩
  rintro i ρ ⟨i1, i2, f, hS1, hX⟩ ih
  have e1 : ρ t 1 = σ t 1 := f t 1 (by simp only [rgSu]; omega)
  refine ok_iload 2 rfl rfl rfl (ok_aload_n 3 rfl rfl rfl (ok_getI 4 rfl rfl fl_X2_31 (sT ht) rfl (Or.inl rfl) (ok_icmp_ge 5 106 rfl rfl rfl (fun h9 => ?_) (fun h9 => ?_))))
  · have e2 : ρ t 2 = σ t 2 := f t 2 (by simp only [rgSu]; omega)
    have e3 : ρ u 2 = σ u 2 := f u 2 (by simp only [rgSu]; omega)
    have x1 : ∀ k, ρ (v + 4) k = σ (v + 4) k := fun k => f _ _ (by simp only [rgSu]; omega)
    have x2 : ∀ k, ρ v k = σ v k := fun k => f _ _ (by simp only [rgSu]; omega)
    have mm := mul_bd2 (a := ρ t 2) (b := ρ u 2) (A := 999999) (B := 999999) ⟨by omega, by omega⟩ ⟨by omega, by omega⟩
    have mp := Int.mul_pos (by omega : 0 < ρ t 2) (by omega : 0 < ρ u 2)
    refine ok_aload_n 57 rfl rfl rfl (ok_aload_n 58 rfl rfl rfl (ok_getI 59 rfl rfl fl_X2_15 (sT ht) rfl (Or.inl rfl) (ok_i2l 60 rfl rfl (ok_aload_n 61 rfl rfl rfl (ok_getI 62 rfl rfl fl_X2_15 (sT hu) rfl (Or.inl rfl) (ok_i2l 63 rfl rfl (ok_lmul 64 rfl rfl (by first | omega | (simp [up_if]; omega) | (simp [up_if] at *; omega)) (ok_aload_n 65 rfl rfl rfl (ok_getI 66 rfl rfl fl_X2_31 (sT ht) rfl (Or.inl rfl) (ok_aload_n 67 rfl rfl rfl (ok_callVI (M' := M_Mk_bring) (as := [_, _, _]) 68 rfl rfl ml_X2_44 (t_Mk_bring hv (by omega) ⟨by omega, by omega⟩ hS1 (iT_cg hV (x2 1) (x2 2) x1).1 (mT_cg hM (x2 1) (x2 3) x1)) rfl rfl (Nat.le_of_ble_eq_true rfl) ⟨Nat.le_of_ble_eq_true rfl, Nat.le_of_ble_eq_true rfl⟩ rfl (Nat.le_of_ble_eq_true rfl) (fun τ z hz => ?_))))))))))))
    refine ok_zret 69 rfl rfl rfl hz.2.2.2.1 ?_
    refine ⟨_, rfl, ⟨(f.mono (fun c k q => by simp only [rgSu] at q; omega)).tr (hz.1.mono (fun c k q => by simp only [rgBr] at q; omega)), hz.2.1, hz.2.2.1, iSu_cg hS1 (fun k => hz.1 15 k (by simp only [rgBr]; omega)), hz.2.2.2.1⟩, ?_⟩
    have hm := hz.2.2.2.2
    rw [e1, e2, e3] at hm
    exact MA_cg hm (fun c k p q => f c k (by simp only [rgSu]; omega)) (fun X Y p q r s => hX X Y p (by omega) r s)
  · refine ok_iconst 6 rfl rfl (by decide) (ok_ist5 7 rfl rfl rfl ?_)
    have il : i < σ t 1 := by omega
    clear h9
    refine lpO2 (fun (j : Int) (_ : eS) => [some (vr 14), some (vr t), some (vr u), some (vr v), some (vi i), some (vi j), none, none, none]) (fun _ ρ => ρ) (fun j ρ => 0 ≤ j ∧ j ≤ 8 ∧ fr rgSu σ ρ ∧ iSu ρ ∧ ∀ X Y, 0 ≤ X → 0 ≤ Y → Y < σ t 1 → (X < i ∨ (X = i ∧ Y < j)) → ρ 15 (X * 8 + Y) = pdF σ t u X Y) (fun j _ => (8 - j).toNat) ?_ 0 ρ ⟨by omega, by omega, f, hS1, fun X Y p q r s => hX X Y p (by omega) q r⟩
    clear e1 f hS1 hX ρ
    rintro j ρ ⟨j1, j2, f, hS1, hX⟩ ih2
    have e1 : ρ t 1 = σ t 1 := f t 1 (by simp only [rgSu]; omega)
    refine ok_iload 8 rfl rfl rfl (ok_aload_n 9 rfl rfl rfl (ok_getI 10 rfl rfl fl_X2_31 (sT ht) rfl (Or.inl rfl) (ok_icmp_ge 11 100 rfl rfl rfl (fun h21 => ?_) (fun h21 => ?_))))
    · refine ok_inc4 55 rfl rfl rfl (by first | omega | (simp [up_if]; omega) | (simp [up_if] at *; omega)) (ok_goto 56 3 rfl rfl rfl ?_)
      exact ok_fg [some (vr 14), some (vr t), some (vr u), some (vr v), some (vi (i + 1)), none, none, none, none] ⟨rfl, rfl, rfl, rfl, rfl, trivial⟩ (ih (i + 1) ρ ⟨by omega, by omega, f, hS1, fun X Y p q r s => hX X Y p r s (by omega)⟩ (by omega))
    · refine ok_lconst (w := 0) 12 rfl rfl rfl (by decide) (ok_lst6 13 rfl rfl rfl (ok_iconst 14 rfl rfl (by decide) (ok_ist8 15 rfl rfl rfl ?_)))
      have jl : j < σ t 1 := by omega
      clear h21
      refine lpO2 (fun (s k : Int) => [some (vr 14), some (vr t), some (vr u), some (vr v), some (vi i), some (vi j), some (vl s), none, some (vi k)]) (fun _ _ => ρ) (fun s k => 0 ≤ k ∧ k ≤ σ t 1 ∧ 0 ≤ s ∧ s ≤ k * 9999999800000001 ∧ s = sm (fun k => cT σ t i k * cT σ u k j) k.toNat) (fun _ k => (8 - k).toNat) ?_ 0 0 ⟨by omega, by omega, by omega, by omega, rfl⟩
      rintro s k ⟨k1, k2, s1, s2, s3⟩ ih3
      have es := sm_s (fun k => cT σ t i k * cT σ u k j) k1
      refine ok_iload 16 rfl rfl rfl (ok_aload_n 17 rfl rfl rfl (ok_getI 18 rfl rfl fl_X2_31 (sT ht) rfl (Or.inl rfl) (ok_icmp_ge 19 79 rfl rfl rfl (fun h36 => ?_) (fun h36 => ?_))))
      · refine ok_aload_n 44 rfl rfl rfl (ok_getR 45 rfl rfl fl_X2_9 rfl rfl (ok_iload 46 rfl rfl rfl (ok_bipush 47 rfl rfl (by decide) (by decide) (ok_imul 48 rfl rfl (by first | omega | (simp [up_if]; omega) | (simp [up_if] at *; omega)) (ok_iload 49 rfl rfl rfl (ok_iadd 50 rfl rfl (by first | omega | (simp [up_if]; omega) | (simp [up_if] at *; omega)) (ok_lload 51 rfl rfl rfl (ok_last 52 rfl rfl rfl (by first | omega | (simp [up_if]; omega) | (simp [up_if] at *; omega)) (ok_inc5 53 rfl rfl rfl (by first | omega | (simp [up_if]; omega) | (simp [up_if] at *; omega)) (ok_goto 54 15 rfl rfl rfl ?_))))))))))
        refine ok_fg [some (vr 14), some (vr t), some (vr u), some (vr v), some (vi i), some (vi (j + 1)), none, none, none] ⟨rfl, rfl, rfl, rfl, rfl, rfl, trivial⟩ (ih2 (j + 1) _ ⟨by omega, by omega, fr_up f rfl, up_su hS1 s1, fun X Y p q r w => ?_⟩ (by omega))
        rcases (by omega : (X < i ∨ (X = i ∧ Y < j)) ∨ (X = i ∧ Y = j)) with x | x
        · rw [up_nk _ _ _ _ (by omega)]; exact hX X Y p q r x
        · rw [x.1, x.2, up_same, s3, show k = σ t 1 by omega]; rfl
      · have c1 := hT.2.2.2 (i * 8 + k) (by omega) (by omega)
        have q1 : ρ (t + 4) (i * 8 + k) = cT σ t i k := f (t + 4) (i * 8 + k) (by simp only [rgSu]; omega)
        have q2 : ρ (u + 4) (k * 8 + j) = cT σ u k j := f (u + 4) (k * 8 + j) (by simp only [rgSu]; omega)
        rw [← f (t + 4) (i * 8 + k) (by simp only [rgSu]; omega)] at c1
        have c2 := hU.2.2.2 (k * 8 + j) (by omega) (by omega)
        rw [← f (u + 4) (k * 8 + j) (by simp only [rgSu]; omega)] at c2
        have mm := mul_bd2 c1 c2
        refine ok_lload 20 rfl rfl rfl (ok_aload_n 21 rfl rfl rfl (ok_getR 22 rfl rfl fl_X2_34 (sT ht) rfl (ok_iload 23 rfl rfl rfl (ok_bipush 24 rfl rfl (by decide) (by decide) (ok_imul 25 rfl rfl (by first | omega | (simp [up_if]; omega) | (simp [up_if] at *; omega)) (ok_iload 26 rfl rfl rfl (ok_iadd 27 rfl rfl (by first | omega | (simp [up_if]; omega) | (simp [up_if] at *; omega)) (ok_iald 28 rfl rfl (sC ht) (by first | omega | (simp [up_if]; omega) | (simp [up_if] at *; omega)) (ok_i2l 29 rfl rfl (ok_aload_n 30 rfl rfl rfl (ok_getR 31 rfl rfl fl_X2_34 (sT hu) rfl (ok_iload 32 rfl rfl rfl (ok_bipush 33 rfl rfl (by decide) (by decide) (ok_imul 34 rfl rfl (by first | omega | (simp [up_if]; omega) | (simp [up_if] at *; omega)) (ok_iload 35 rfl rfl rfl (ok_iadd 36 rfl rfl (by first | omega | (simp [up_if]; omega) | (simp [up_if] at *; omega)) (ok_iald 37 rfl rfl (sC hu) (by first | omega | (simp [up_if]; omega) | (simp [up_if] at *; omega)) (ok_i2l 38 rfl rfl (ok_lmul 39 rfl rfl (by first | omega | (simp [up_if]; omega) | (simp [up_if] at *; omega)) (ok_ladd 40 rfl rfl (by first | omega | (simp [up_if]; omega) | (simp [up_if] at *; omega)) (ok_lst6 41 rfl rfl rfl (ok_inc8 42 rfl rfl rfl (by first | omega | (simp [up_if]; omega) | (simp [up_if] at *; omega)) (ok_goto 43 30 rfl rfl rfl ?_)))))))))))))))))))))))
        exact ih3 _ (k + 1) ⟨by omega, by omega, by omega, by omega, by rw [es, ← s3, q1, q2]⟩ (by omega)
end
