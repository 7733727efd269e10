theorem lc_eq {a b : Int} (ha : 1 ≤ a) (hb : 1 ≤ b) : a / (Int.gcd a b : Int) * b = (Int.lcm a b : Int) := by
  have hg : (Int.gcd a b : Int) ≠ 0 := by have := Int.gcd_pos_of_ne_zero_left (a := a) b (by omega); omega
  have h1 : (Int.gcd a b : Int) * (a / (Int.gcd a b : Int)) = a := Int.mul_ediv_cancel' (Int.gcd_dvd_left a b)
  have h2 : (Int.lcm a b : Int) = a * b / (Int.gcd a b : Int) := by
    rw [Int.lcm_eq_mul_div, Int.natCast_ediv, Int.natCast_mul, Int.natAbs_of_nonneg (by omega), Int.natAbs_of_nonneg (by omega)]
  rw [h2]
  have h3 : a * b = (Int.gcd a b : Int) * (a / (Int.gcd a b : Int) * b) := by rw [← Int.mul_assoc, h1]
  rw [h3, Int.mul_ediv_cancel_left _ hg]
/-- least multiple, within; or beyond -/
theorem lcS_cs (a b l : Int) (hl : 1 ≤ l) : lcS a b l = -1 ∨ (1 ≤ a ∧ 1 ≤ b ∧ lcS a b l = (Int.lcm a b : Int) ∧ 1 ≤ lcS a b l ∧ lcS a b l ≤ l) := by
  unfold lcS
  by_cases h1 : a < 1 ∨ b < 1
  · rw [if_pos h1]; exact Or.inl rfl
  · rw [if_neg h1]
    by_cases h2 : l < a / (Int.gcd a b : Int) * b
    · rw [if_pos h2]; exact Or.inl rfl
    · rw [if_neg h2]
      have e := lc_eq (a := a) (b := b) (by omega) (by omega)
      have p := Int.lcm_pos (m := a) (n := b) (by omega) (by omega)
      exact Or.inr ⟨by omega, by omega, e, by omega, by omega⟩
theorem lcS_neg {a b l : Int} (h : a = -1) : lcS a b l = -1 := by unfold lcS; rw [if_pos (by omega)]
theorem cbR_neg {un : Int → Int} {i v : Int} {j : Nat} : ∀ {j' : Nat}, j ≤ j' → cbR un i v j = -1 → cbR un i v j' = -1
  | 0, h, e => by rw [← e, show j = 0 by omega]
  | j' + 1, h, e => by
    rcases (by omega : j = j' + 1 ∨ j ≤ j') with q | q
    · rw [← q]; exact e
    · exact lcS_neg (cbR_neg q e)
theorem cbC_neg {un : Int → Int} {n i : Nat} : ∀ {i' : Nat}, i ≤ i' → cbC un n i = -1 → cbC un n i' = -1
  | 0, h, e => by rw [← e, show i = 0 by omega]
  | i' + 1, h, e => by
    rcases (by omega : i = i' + 1 ∨ i ≤ i') with q | q
    · rw [← q]; exact e
    · exact cbR_neg (j := 0) (Nat.zero_le _) (cbC_neg q e)
theorem cbR_cs {un : Int → Int} {i v : Int} (hv : v = -1 ∨ (1 ≤ v ∧ v ≤ 999999)) : ∀ j : Nat, cbR un i v j = -1 ∨ (1 ≤ v ∧ 1 ≤ cbR un i v j ∧ cbR un i v j ≤ 999999 ∧ v ∣ cbR un i v j ∧ (∀ y : Nat, y < j → un (i * 8 + y) ∣ cbR un i v j) ∧ ∀ m : Int, v ∣ m → (∀ y : Nat, y < j → un (i * 8 + y) ∣ m) → cbR un i v j ∣ m)
  | 0 => by
    rcases hv with q | q
    · exact Or.inl q
    · exact Or.inr ⟨q.1, q.1, q.2, Int.dvd_refl _, fun y h => absurd h (by omega), fun m h _ => h⟩
  | j + 1 => by
    rcases lcS_cs (cbR un i v j) (un (i * 8 + j)) 999999 (by omega) with q | ⟨q1, q2, q3, q4, q5⟩
    · exact Or.inl q
    · rcases cbR_cs (un := un) (i := i) hv j with w | ⟨w1, w2, w3, w4, w5, w6⟩
      · omega
      · refine Or.inr ⟨w1, q4, q5, ?_, fun y h => ?_, fun m a b => ?_⟩
        · rw [cbR, q3]; exact Int.dvd_trans w4 (Int.dvd_lcm_left _ _)
        · rw [cbR, q3]
          rcases (by omega : y < j ∨ y = j) with z | z
          · exact Int.dvd_trans (w5 y z) (Int.dvd_lcm_left _ _)
          · rw [z]; exact Int.dvd_lcm_right _ _
        · rw [cbR, q3]
          exact Int.coe_lcm_dvd (w6 m a (fun y h => b y (by omega))) (b j (by omega))
theorem cbC_cs {un : Int → Int} {n : Nat} : ∀ i : Nat, cbC un n i = -1 ∨ (1 ≤ cbC un n i ∧ cbC un n i ≤ 999999 ∧ (∀ x y : Nat, x < i → y < n → un (x * 8 + y) ∣ cbC un n i) ∧ ∀ m : Int, (∀ x y : Nat, x < i → y < n → un (x * 8 + y) ∣ m) → cbC un n i ∣ m)
  | 0 => Or.inr ⟨by simp [cbC], by simp [cbC], fun x y h => absurd h (by omega), fun m _ => by rw [cbC]; exact Int.one_dvd _⟩
  | i + 1 => by
    have hv : cbC un n i = -1 ∨ (1 ≤ cbC un n i ∧ cbC un n i ≤ 999999) := (cbC_cs i).imp id (fun h => ⟨h.1, h.2.1⟩)
    rcases cbR_cs (un := un) (i := i) hv n with q | ⟨w1, w2, w3, w4, w5, w6⟩
    · exact Or.inl q
    · rcases cbC_cs (un := un) (n := n) i with v | ⟨v1, v2, v3, v4⟩
      · omega
      · refine Or.inr ⟨w2, w3, fun x y a b => ?_, fun m a => ?_⟩
        · rw [cbC]
          rcases (by omega : x < i ∨ x = i) with z | z
          · exact Int.dvd_trans (v3 x y z b) w4
          · rw [z]; exact w5 y b
        · rw [cbC]
          exact w6 m (v4 m (fun x y c d => a x y (by omega) d)) (fun y c => a i y (by omega) c)
theorem cbR_cg {un un' : Int → Int} {i v : Int} : ∀ {j : Nat}, (∀ y : Nat, y < j → un (i * 8 + y) = un' (i * 8 + y)) → cbR un i v j = cbR un' i v j
  | 0, _ => rfl
  | j + 1, h => by rw [cbR, cbR, cbR_cg (fun y q => h y (by omega)), h j (by omega)]
theorem cbC_cg {un un' : Int → Int} {n : Nat} : ∀ {i : Nat}, (∀ x y : Nat, x < i → y < n → un (x * 8 + y) = un' (x * 8 + y)) → cbC un n i = cbC un' n i
  | 0, _ => rfl
  | i + 1, h => by rw [cbC, cbC, cbC_cg (fun x y q z => h x y (by omega) z), cbR_cg (fun y q => h i y (by omega) q)]
/-- in least terms over the least common number, nothing divides all -/
theorem lt_one {ab un : Int → Int} {n : Nat} {b g : Int} (hb : b = cbC un n n) (h1 : 1 ≤ b) (hg : 1 ≤ g) (hgb : g ∣ b) (hu : ∀ x y : Nat, x < n → y < n → 1 ≤ un (x * 8 + y) ∧ Int.gcd (un (x * 8 + y)) (ab (x * 8 + y)) = 1) (hgc : ∀ x y : Nat, x < n → y < n → g ∣ ab (x * 8 + y) * (b / un (x * 8 + y))) : g = 1 := by
  rcases cbC_cs (un := un) (n := n) n with q | ⟨q1, q2, q3, q4⟩
  · omega
  · rw [← hb] at q1 q2 q3 q4
    obtain ⟨m, hm⟩ := hgb
    have key : b ∣ m := q4 m (fun x y hx hy => by
      obtain ⟨u1, u2⟩ := hu x y hx hy
      obtain ⟨c, hc⟩ := q3 x y hx hy
      have hbu : b / un (x * 8 + y) = c := by rw [hc]; exact Int.mul_ediv_cancel_left _ (by omega)
      have d1 := hgc x y hx hy
      rw [hbu] at d1
      have d2 : g ∣ un (x * 8 + y) * c := by rw [← hc, hm]; exact Int.dvd_mul_right _ _
      have d3 : g ∣ (Int.gcd (un (x * 8 + y) * c) (ab (x * 8 + y) * c) : Int) := Int.dvd_coe_gcd d2 d1
      rw [Int.gcd_mul_right, u2, Nat.one_mul] at d3
      have d4 : g ∣ c := Int.dvd_natAbs.mp d3
      obtain ⟨k, hk⟩ := d4
      refine ⟨k, ?_⟩
      have e : g * m = g * (un (x * 8 + y) * k) := by rw [← hm, hc, hk, Int.mul_left_comm]
      exact Int.eq_of_mul_eq_mul_left (by omega) e)
    have mp : 1 ≤ m := by
      rcases (by omega : 1 ≤ m ∨ m ≤ 0) with z | z
      · exact z
      · have := Int.mul_le_mul_of_nonneg_left z (by omega : 0 ≤ g)
        omega
    have le := Int.le_of_dvd (by omega) key
    rcases (by omega : g = 1 ∨ 2 ≤ g) with z | z
    · exact z
    · have := Int.mul_le_mul_of_nonneg_right z (by omega : 0 ≤ m)
      omega
section PRC
variable {B B' : Int → Int} {L : Int}
def aB (B B' : Int → Int) (L : Int) : Prop := ∀ i : Int, 0 ≤ i → i < L → B i = B' i
theorem bl_cg (h : aB B B' L) {i : Int} (hi : 0 ≤ i) : blA B L i ↔ blA B' L i := by
  unfold blA
  constructor <;> intro q <;> have := h i hi q.1 <;> exact ⟨q.1, by have := q.2; omega⟩
theorem dg_cg (h : aB B B' L) {i : Int} (hi : 0 ≤ i) : dgA B L i ↔ dgA B' L i := by
  unfold dgA
  constructor <;> intro q <;> have := h i hi q.1 <;> exact ⟨q.1, by have := q.2; omega⟩
theorem sk_cg (h : aB B B' L) {p : Int} (hp : 0 ≤ p) : sk B L p = sk B' L p := by
  obtain ⟨a, b, c, d⟩ := sk_sp B' L p
  exact sk_un a (fun i x y => (bl_cg h (by omega)).mpr (c i x y)) (fun q => d ((bl_cg h (by omega)).mp q))
theorem de_cg (h : aB B B' L) {p : Int} (hp : 0 ≤ p) : de B L p = de B' L p := by
  obtain ⟨a, b, c, d⟩ := de_sp B' L p
  exact de_un a (fun i x y => (dg_cg h (by omega)).mpr (c i x y)) (fun q => d ((dg_cg h (by omega)).mp q))
theorem vaN_cg {p : Int} : ∀ {n : Nat}, (∀ i, p ≤ i → i < p + n → B i = B' i) → vaN B p n = vaN B' p n
  | 0, _ => rfl
  | n + 1, h => by rw [vaN, vaN, vaN_cg (fun i a b => h i a (by omega)), h (p + n) (by omega) (by omega)]
theorem vaD_cg (h : aB B B' L) {p : Int} (hp : 0 ≤ p) : vaD B p (de B L p) = vaD B' p (de B L p) := by
  unfold vaD
  exact vaN_cg (fun i a b => h i (by omega) (by have := (de_sp B L p).2.2.1 i a (by omega); exact this.1))
def aC (ab ab' un un' : Int → Int) (r k w : Int) : Prop := ∀ x y : Int, 0 ≤ x → 0 ≤ y → ((x < r ∧ y < w) ∨ (x = r ∧ y < k)) → ab (x * 8 + y) = ab' (x * 8 + y) ∧ un (x * 8 + y) = un' (x * 8 + y)
/-- the same fault, place, rows, width; and where there is no fault, the same fractions -/
def aO (o o' : oA) : Prop := o.1 = o'.1 ∧ o.2.1 = o'.2.1 ∧ o.2.2.1 = o'.2.2.1 ∧ o.2.2.2.1 = o'.2.2.2.1 ∧ (o.1 = 0 → aC o.2.2.2.2.1 o'.2.2.2.2.1 o.2.2.2.2.2 o'.2.2.2.2.2 o.2.2.1 0 o.2.2.2.1)
theorem aO_bad {c q r w : Int} {ab un ab' un' : Int → Int} (h : c ≠ 0) : aO (c, q, r, w, ab, un) (c, q, r, w, ab', un') := ⟨rfl, rfl, rfl, rfl, fun z => absurd z h⟩
theorem aC_uf {ab ab' un un' : Int → Int} {r k w a u : Int} (h : aC ab ab' un un' r k w) : aC (uf ab (r * 8 + k) a) (uf ab' (r * 8 + k) a) (uf un (r * 8 + k) u) (uf un' (r * 8 + k) u) r (k + 1) w := by
  intro x y hx hy hc
  unfold uf
  by_cases e : x * 8 + y = r * 8 + k
  · rw [if_pos e, if_pos e, if_pos e, if_pos e]; exact ⟨rfl, rfl⟩
  · rw [if_neg e, if_neg e, if_neg e, if_neg e]
    exact h x y hx hy (by omega)
theorem PR_cg (hB : aB B B' L) : ∀ (N : Nat) (p r k w : Int) (ab un ab' un' : Int → Int), (L - p).toNat < N → 0 ≤ p → aC ab ab' un un' r k w → aO (PR B L p r k w ab un) (PR B' L p r k w ab' un')
  | 0, p, r, k, w, ab, un, ab', un', hN, hp, hc => by omega
  | N + 1, p, r, k, w, ab, un, ab', un', hN, hp, hc => by
    obtain ⟨q, hq⟩ : ∃ q, sk B L p = q := ⟨_, rfl⟩
    have hq' : sk B' L p = q := by rw [← sk_cg hB hp]; exact hq
    have hpq : p ≤ q := by rw [← hq]; exact (sk_sp B L p).1
    by_cases c1 : q < L
    · have bq := hB q (by omega) c1
      by_cases c2 : B q = 59
      · rw [PR_59 hq c1 c2, PR_59 hq' c1 (by omega)]
        by_cases c3 : r = 8
        · rw [if_pos c3, if_pos c3]; exact aO_bad (by decide)
        · rw [if_neg c3, if_neg c3]
          by_cases c4 : 0 < r ∧ k ≠ w
          · rw [if_pos c4, if_pos c4]; exact aO_bad (by decide)
          · rw [if_neg c4, if_neg c4]
            refine PR_cg hB N _ _ _ _ _ _ _ _ (by omega) (by omega) (fun x y hx hy hz => hc x y hx hy ?_)
            rcases hz with hz | hz
            · by_cases z : r = 0
              · rw [if_pos z] at hz; omega
              · rw [if_neg z] at hz; omega
            · omega
      · by_cases c3 : 48 ≤ B q ∧ B q ≤ 57
        · obtain ⟨e, he⟩ : ∃ e, de B L q = e := ⟨_, rfl⟩
          have he' : de B' L q = e := by rw [← de_cg hB (by omega)]; exact he
          have qe : q < e := by rw [← he]; exact de_gt ⟨c1, c3⟩
          have hv : vaD B' q e = vaD B q e := by rw [← he]; exact (vaD_cg hB (by omega)).symm
          obtain ⟨f, hf⟩ : ∃ f, sk B L e = f := ⟨_, rfl⟩
          have hf' : sk B' L e = f := by rw [← sk_cg hB (by omega)]; exact hf
          have ef : e ≤ f := by rw [← hf]; exact (sk_sp B L e).1
          rw [PR_dig hq c1 c3 he, PR_dig hq' c1 (by omega) he', hv, hf, hf']
          by_cases c4 : 6 < e - q
          · rw [if_pos c4, if_pos c4]; exact aO_bad (by decide)
          · rw [if_neg c4, if_neg c4]
            by_cases c5 : r = 8 ∨ k = 8
            · rw [if_pos c5, if_pos c5]; exact aO_bad (by decide)
            · rw [if_neg c5, if_neg c5]
              by_cases c6 : 0 < r ∧ k = w
              · rw [if_pos c6, if_pos c6]; exact aO_bad (by decide)
              · rw [if_neg c6, if_neg c6]
                by_cases c7 : f < L ∧ B f = 47
                · have c7' : f < L ∧ B' f = 47 := ⟨c7.1, by rw [← hB f (by omega) c7.1]; exact c7.2⟩
                  rw [if_pos c7, if_pos c7']
                  obtain ⟨s, hs⟩ : ∃ s, sk B L (f + 1) = s := ⟨_, rfl⟩
                  have hs' : sk B' L (f + 1) = s := by rw [← sk_cg hB (by omega)]; exact hs
                  have fs : f + 1 ≤ s := by rw [← hs]; exact (sk_sp B L (f + 1)).1
                  obtain ⟨t, ht⟩ : ∃ t, de B L s = t := ⟨_, rfl⟩
                  have ht' : de B' L s = t := by rw [← de_cg hB (by omega)]; exact ht
                  have st : s ≤ t := by rw [← ht]; exact (de_sp B L s).1
                  have hv2 : vaD B' s t = vaD B s t := by rw [← ht]; exact (vaD_cg hB (by omega)).symm
                  rw [hs, hs', ht, ht', hv2]
                  have hdg := dg_cg hB (i := s) (by omega)
                  unfold dgA at hdg
                  by_cases c8 : ¬ (s < L ∧ 48 ≤ B s ∧ B s ≤ 57) ∨ 6 < t - s
                  · have c8' := c8
                    rw [hdg] at c8'
                    rw [if_pos c8, if_pos c8']; exact aO_bad (by decide)
                  · have c8' := c8
                    rw [hdg] at c8'
                    rw [if_neg c8, if_neg c8']
                    by_cases c9 : vaD B s t = 0
                    · rw [if_pos c9, if_pos c9]; exact aO_bad (by decide)
                    · rw [if_neg c9, if_neg c9]
                      exact PR_cg hB N _ _ _ _ _ _ _ _ (by omega) (by omega) (aC_uf hc)
                · have c7' : ¬ (f < L ∧ B' f = 47) := fun z => c7 ⟨z.1, by rw [hB f (by omega) z.1]; exact z.2⟩
                  rw [if_neg c7, if_neg c7']
                  exact PR_cg hB N _ _ _ _ _ _ _ _ (by omega) (by omega) (aC_uf hc)
        · rw [PR_bad hq c1 c2 c3, PR_bad hq' c1 (by omega) (by omega)]
          exact aO_bad (by decide)
    · rw [PR_end hq c1, PR_end hq' c1]
      by_cases c2 : 0 < k
      · rw [if_pos c2, if_pos c2]; exact aO_bad (by decide)
      · rw [if_neg c2, if_neg c2]
        by_cases c3 : r ≠ w
        · rw [if_pos c3, if_pos c3]; exact aO_bad (by decide)
        · rw [if_neg c3, if_neg c3]
          exact ⟨rfl, rfl, rfl, rfl, fun _ x y hx hy hz => hc x y hx hy (by dsimp only at hz; omega)⟩
/-- the whole text -/
theorem PR_al (hB : aB B B' L) (ab un ab' un' : Int → Int) : aO (PR B L 0 0 0 0 ab un) (PR B' L 0 0 0 0 ab' un') := PR_cg hB _ _ _ _ _ _ _ _ _ (Nat.lt_succ_self _) (by omega) (fun x y hx hy h => by omega)
end PRC
