/-! THE TEXT OF A TABLE, read by one function of its bytes: fault, place, rows, width, and the fractions in least terms -/
def blA (B : Int → Int) (L i : Int) : Prop := i < L ∧ (B i = 32 ∨ B i = 10)
def dgA (B : Int → Int) (L i : Int) : Prop := i < L ∧ 48 ≤ B i ∧ B i ≤ 57
def skn (B : Int → Int) (L : Int) : Nat → Int → Int
  | 0, p => p
  | n + 1, p => if p < L ∧ (B p = 32 ∨ B p = 10) then skn B L n (p + 1) else p
def sk (B : Int → Int) (L p : Int) : Int := skn B L (L - p).toNat p
def den (B : Int → Int) (L : Int) : Nat → Int → Int
  | 0, p => p
  | n + 1, p => if p < L ∧ 48 ≤ B p ∧ B p ≤ 57 then den B L n (p + 1) else p
def de (B : Int → Int) (L p : Int) : Int := den B L (L - p).toNat p
def vaN (B : Int → Int) (p : Int) : Nat → Int
  | 0 => 0
  | n + 1 => 10 * vaN B p n + (B (p + n) - 48)
def vaD (B : Int → Int) (p q : Int) : Int := vaN B p (q - p).toNat
theorem skn_sp (B : Int → Int) (L : Int) : ∀ (n : Nat) (p : Int), (L - p).toNat ≤ n → p ≤ skn B L n p ∧ (p ≤ L → skn B L n p ≤ L) ∧ (∀ i, p ≤ i → i < skn B L n p → blA B L i) ∧ ¬ blA B L (skn B L n p)
  | 0, p, h => ⟨Int.le_refl _, fun q => q, fun i a b => by simp only [skn] at b; omega, fun q => by have := q.1; simp only [skn] at this; omega⟩
  | n + 1, p, h => by
    by_cases c : p < L ∧ (B p = 32 ∨ B p = 10)
    · have e : skn B L (n + 1) p = skn B L n (p + 1) := by rw [skn, if_pos c]
      obtain ⟨h1, h2, h3, h4⟩ := skn_sp B L n (p + 1) (by omega)
      rw [e]
      refine ⟨by omega, fun q => h2 (by omega), fun i a b => ?_, h4⟩
      rcases (by omega : i = p ∨ p + 1 ≤ i) with q | q
      · rw [q]; exact c
      · exact h3 i q b
    · have e : skn B L (n + 1) p = p := by rw [skn, if_neg c]
      rw [e]
      exact ⟨Int.le_refl _, fun q => q, fun i a b => by omega, c⟩
theorem den_sp (B : Int → Int) (L : Int) : ∀ (n : Nat) (p : Int), (L - p).toNat ≤ n → p ≤ den B L n p ∧ (p ≤ L → den B L n p ≤ L) ∧ (∀ i, p ≤ i → i < den B L n p → dgA B L i) ∧ ¬ dgA B L (den B L n p)
  | 0, p, h => ⟨Int.le_refl _, fun q => q, fun i a b => by simp only [den] at b; omega, fun q => by have := q.1; simp only [den] at this; omega⟩
  | n + 1, p, h => by
    by_cases c : p < L ∧ 48 ≤ B p ∧ B p ≤ 57
    · have e : den B L (n + 1) p = den B L n (p + 1) := by rw [den, if_pos c]
      obtain ⟨h1, h2, h3, h4⟩ := den_sp B L n (p + 1) (by omega)
      rw [e]
      refine ⟨by omega, fun q => h2 (by omega), fun i a b => ?_, h4⟩
      rcases (by omega : i = p ∨ p + 1 ≤ i) with q | q
      · rw [q]; exact c
      · exact h3 i q b
    · have e : den B L (n + 1) p = p := by rw [den, if_neg c]
      rw [e]
      exact ⟨Int.le_refl _, fun q => q, fun i a b => by omega, c⟩
theorem sk_sp (B : Int → Int) (L p : Int) : p ≤ sk B L p ∧ (p ≤ L → sk B L p ≤ L) ∧ (∀ i, p ≤ i → i < sk B L p → blA B L i) ∧ ¬ blA B L (sk B L p) := skn_sp B L _ p (Nat.le_refl _)
theorem de_sp (B : Int → Int) (L p : Int) : p ≤ de B L p ∧ (p ≤ L → de B L p ≤ L) ∧ (∀ i, p ≤ i → i < de B L p → dgA B L i) ∧ ¬ dgA B L (de B L p) := den_sp B L _ p (Nat.le_refl _)
/-- it is the only such place -/
theorem sk_un {B : Int → Int} {L p q : Int} (h1 : p ≤ q) (h2 : ∀ i, p ≤ i → i < q → blA B L i) (h3 : ¬ blA B L q) : sk B L p = q := by
  obtain ⟨a, _, c, d⟩ := sk_sp B L p
  rcases (by omega : sk B L p < q ∨ sk B L p = q ∨ q < sk B L p) with w | w | w
  · exact absurd (h2 _ a w) d
  · exact w
  · exact absurd (c q h1 w) h3
theorem de_un {B : Int → Int} {L p q : Int} (h1 : p ≤ q) (h2 : ∀ i, p ≤ i → i < q → dgA B L i) (h3 : ¬ dgA B L q) : de B L p = q := by
  obtain ⟨a, _, c, d⟩ := de_sp B L p
  rcases (by omega : de B L p < q ∨ de B L p = q ∨ q < de B L p) with w | w | w
  · exact absurd (h2 _ a w) d
  · exact w
  · exact absurd (c q h1 w) h3
theorem sk_mid {B : Int → Int} {L p r : Int} (h1 : p ≤ r) (h2 : ∀ i, p ≤ i → i < r → blA B L i) : sk B L p = sk B L r := by
  obtain ⟨a, _, c, d⟩ := sk_sp B L r
  refine sk_un (by omega) (fun i x y => ?_) d
  rcases (by omega : i < r ∨ r ≤ i) with w | w
  · exact h2 i x w
  · exact c i w y
theorem sk_id {B : Int → Int} {L p : Int} : sk B L (sk B L p) = sk B L p := (sk_mid (sk_sp B L p).1 (sk_sp B L p).2.2.1).symm
/-- fault, place, rows, width, above, under -/
abbrev oA : Type := Int × Int × Int × Int × (Int → Int) × (Int → Int)
def uf (f : Int → Int) (k v : Int) : Int → Int := fun j => if j = k then v else f j
def prB (B : Int → Int) (L : Int) (rec : Int → Int → Int → Int → (Int → Int) → (Int → Int) → oA) (p r k w : Int) (ab un : Int → Int) : oA :=
  if ¬ sk B L p < L then (if 0 < k then (1, L, r, w, ab, un) else if r ≠ w then (5, L, r, w, ab, un) else (0, -1, r, w, ab, un))
  else if B (sk B L p) = 59 then (if r = 8 then (3, sk B L p, r, w, ab, un) else if 0 < r ∧ k ≠ w then (4, sk B L p, r, w, ab, un) else rec (sk B L p + 1) (r + 1) 0 (if r = 0 then k else w) ab un)
  else if ¬ (48 ≤ B (sk B L p) ∧ B (sk B L p) ≤ 57) then (1, sk B L p, r, w, ab, un)
  else if 6 < de B L (sk B L p) - sk B L p then (1, sk B L p, r, w, ab, un)
  else if r = 8 ∨ k = 8 then (3, sk B L p, r, w, ab, un)
  else if 0 < r ∧ k = w then (4, sk B L p, r, w, ab, un)
  else if sk B L (de B L (sk B L p)) < L ∧ B (sk B L (de B L (sk B L p))) = 47 then
    (if ¬ (sk B L (sk B L (de B L (sk B L p)) + 1) < L ∧ 48 ≤ B (sk B L (sk B L (de B L (sk B L p)) + 1)) ∧ B (sk B L (sk B L (de B L (sk B L p)) + 1)) ≤ 57) ∨ 6 < de B L (sk B L (sk B L (de B L (sk B L p)) + 1)) - sk B L (sk B L (de B L (sk B L p)) + 1) then (1, sk B L (sk B L (de B L (sk B L p)) + 1), r, w, ab, un)
    else if vaD B (sk B L (sk B L (de B L (sk B L p)) + 1)) (de B L (sk B L (sk B L (de B L (sk B L p)) + 1))) = 0 then (2, sk B L (sk B L (de B L (sk B L p)) + 1), r, w, ab, un)
    else rec (de B L (sk B L (sk B L (de B L (sk B L p)) + 1))) r (k + 1) w (uf ab (r * 8 + k) (vaD B (sk B L p) (de B L (sk B L p)) / (Int.gcd (vaD B (sk B L (sk B L (de B L (sk B L p)) + 1)) (de B L (sk B L (sk B L (de B L (sk B L p)) + 1)))) (vaD B (sk B L p) (de B L (sk B L p))) : Int))) (uf un (r * 8 + k) (vaD B (sk B L (sk B L (de B L (sk B L p)) + 1)) (de B L (sk B L (sk B L (de B L (sk B L p)) + 1))) / (Int.gcd (vaD B (sk B L (sk B L (de B L (sk B L p)) + 1)) (de B L (sk B L (sk B L (de B L (sk B L p)) + 1)))) (vaD B (sk B L p) (de B L (sk B L p))) : Int))))
  else rec (sk B L (de B L (sk B L p))) r (k + 1) w (uf ab (r * 8 + k) (vaD B (sk B L p) (de B L (sk B L p)) / (Int.gcd 1 (vaD B (sk B L p) (de B L (sk B L p))) : Int))) (uf un (r * 8 + k) (1 / (Int.gcd 1 (vaD B (sk B L p) (de B L (sk B L p))) : Int)))
def prs (B : Int → Int) (L : Int) : Nat → Int → Int → Int → Int → (Int → Int) → (Int → Int) → oA
  | 0 => fun _ r _ w ab un => (0, -1, r, w, ab, un)
  | n + 1 => prB B L (prs B L n)
def PR (B : Int → Int) (L p r k w : Int) (ab un : Int → Int) : oA := prs B L ((L - p).toNat + 1) p r k w ab un
theorem de_gt {B : Int → Int} {L q : Int} (h : dgA B L q) : q < de B L q := by
  have := (de_sp B L q).1
  have := (de_sp B L q).2.2.2
  rcases (by omega : q < de B L q ∨ de B L q = q) with w | w
  · exact w
  · rw [w] at this; exact absurd h this
theorem prB_cg {B : Int → Int} {L p r k w : Int} {ab un : Int → Int} {f g : Int → Int → Int → Int → (Int → Int) → (Int → Int) → oA} (h : ∀ p' r' k' w' ab' un', p < p' → p < L → f p' r' k' w' ab' un' = g p' r' k' w' ab' un') : prB B L f p r k w ab un = prB B L g p r k w ab un := by
  have s1 := (sk_sp B L p).1
  unfold prB
  by_cases c1 : sk B L p < L
  · have pl : p < L := by omega
    rw [if_neg (not_not_intro c1), if_neg (not_not_intro c1)]
    by_cases c2 : B (sk B L p) = 59
    · rw [if_pos c2, if_pos c2]
      by_cases c3 : r = 8
      · rw [if_pos c3, if_pos c3]
      · rw [if_neg c3, if_neg c3]
        by_cases c4 : 0 < r ∧ k ≠ w
        · rw [if_pos c4, if_pos c4]
        · rw [if_neg c4, if_neg c4]
          exact h _ _ _ _ _ _ (by omega) pl
    · rw [if_neg c2, if_neg c2]
      by_cases c3 : 48 ≤ B (sk B L p) ∧ B (sk B L p) ≤ 57
      · rw [if_neg (not_not_intro c3), if_neg (not_not_intro c3)]
        have d1 := de_gt (B := B) (L := L) (q := sk B L p) ⟨c1, c3⟩
        have d2 := (sk_sp B L (de B L (sk B L p))).1
        by_cases c4 : 6 < de B L (sk B L p) - sk B L p
        · rw [if_pos c4, if_pos c4]
        · rw [if_neg c4, if_neg c4]
          by_cases c5 : r = 8 ∨ k = 8
          · rw [if_pos c5, if_pos c5]
          · rw [if_neg c5, if_neg c5]
            by_cases c6 : 0 < r ∧ k = w
            · rw [if_pos c6, if_pos c6]
            · rw [if_neg c6, if_neg c6]
              by_cases c7 : sk B L (de B L (sk B L p)) < L ∧ B (sk B L (de B L (sk B L p))) = 47
              · rw [if_pos c7, if_pos c7]
                have d3 := (sk_sp B L (sk B L (de B L (sk B L p)) + 1)).1
                have d4 := (de_sp B L (sk B L (sk B L (de B L (sk B L p)) + 1))).1
                split
                · rfl
                · split
                  · rfl
                  · exact h _ _ _ _ _ _ (by omega) pl
              · rw [if_neg c7, if_neg c7]
                exact h _ _ _ _ _ _ (by omega) pl
      · rw [if_pos c3, if_pos c3]
  · rw [if_pos c1, if_pos c1]
theorem prs_fu (B : Int → Int) (L : Int) : ∀ (n m : Nat) (p r k w : Int) (ab un : Int → Int), (L - p).toNat < n → (L - p).toNat < m → prs B L n p r k w ab un = prs B L m p r k w ab un
  | 0, m, p, r, k, w, ab, un, h1, h2 => by omega
  | n + 1, 0, p, r, k, w, ab, un, h1, h2 => by omega
  | n + 1, m + 1, p, r, k, w, ab, un, h1, h2 => prB_cg (fun p' r' k' w' ab' un' a b => prs_fu B L n m p' r' k' w' ab' un' (by omega) (by omega))
/-- one step of the reading -/
theorem PR_eq (B : Int → Int) (L p r k w : Int) (ab un : Int → Int) : PR B L p r k w ab un = prB B L (PR B L) p r k w ab un :=
  prB_cg (fun p' r' k' w' ab' un' a b => prs_fu B L _ _ p' r' k' w' ab' un' (by omega) (by omega))
/-- blanks ahead count for nothing -/
theorem PR_sk {B : Int → Int} {L p p' r k w : Int} {ab un : Int → Int} (h : sk B L p = sk B L p') : PR B L p r k w ab un = PR B L p' r k w ab un := by
  rw [PR_eq, PR_eq B L p']
  unfold prB
  rw [h]
section PRL
variable {B : Int → Int} {L p q r k w : Int} {ab un : Int → Int}
theorem PR_end (hq : sk B L p = q) (h : ¬ q < L) : PR B L p r k w ab un = (if 0 < k then (1, L, r, w, ab, un) else if r ≠ w then (5, L, r, w, ab, un) else (0, -1, r, w, ab, un)) := by
  rw [PR_eq B L p r k w ab un]
  unfold prB
  rw [hq, if_pos h]
theorem PR_59 (hq : sk B L p = q) (h : q < L) (hb : B q = 59) : PR B L p r k w ab un = (if r = 8 then (3, q, r, w, ab, un) else if 0 < r ∧ k ≠ w then (4, q, r, w, ab, un) else PR B L (q + 1) (r + 1) 0 (if r = 0 then k else w) ab un) := by
  rw [PR_eq B L p r k w ab un]
  unfold prB
  rw [hq, if_neg (not_not_intro h), if_pos hb]
theorem PR_bad (hq : sk B L p = q) (h : q < L) (hb : B q ≠ 59) (hd : ¬ (48 ≤ B q ∧ B q ≤ 57)) : PR B L p r k w ab un = (1, q, r, w, ab, un) := by
  rw [PR_eq B L p r k w ab un]
  unfold prB
  rw [hq, if_neg (not_not_intro h), if_neg hb, if_pos hd]
theorem PR_dig {e : Int} (hq : sk B L p = q) (h : q < L) (hd : 48 ≤ B q ∧ B q ≤ 57) (he : de B L q = e) : PR B L p r k w ab un = (if 6 < e - q then (1, q, r, w, ab, un) else if r = 8 ∨ k = 8 then (3, q, r, w, ab, un) else if 0 < r ∧ k = w then (4, q, r, w, ab, un) else
    if sk B L e < L ∧ B (sk B L e) = 47 then
    (if ¬ (sk B L (sk B L e + 1) < L ∧ 48 ≤ B (sk B L (sk B L e + 1)) ∧ B (sk B L (sk B L e + 1)) ≤ 57) ∨ 6 < de B L (sk B L (sk B L e + 1)) - sk B L (sk B L e + 1) then (1, sk B L (sk B L e + 1), r, w, ab, un)
    else if vaD B (sk B L (sk B L e + 1)) (de B L (sk B L (sk B L e + 1))) = 0 then (2, sk B L (sk B L e + 1), r, w, ab, un)
    else PR B L (de B L (sk B L (sk B L e + 1))) r (k + 1) w (uf ab (r * 8 + k) (vaD B q e / (Int.gcd (vaD B (sk B L (sk B L e + 1)) (de B L (sk B L (sk B L e + 1)))) (vaD B q e) : Int))) (uf un (r * 8 + k) (vaD B (sk B L (sk B L e + 1)) (de B L (sk B L (sk B L e + 1))) / (Int.gcd (vaD B (sk B L (sk B L e + 1)) (de B L (sk B L (sk B L e + 1)))) (vaD B q e) : Int))))
    else PR B L (sk B L e) r (k + 1) w (uf ab (r * 8 + k) (vaD B q e / (Int.gcd 1 (vaD B q e) : Int))) (uf un (r * 8 + k) (1 / (Int.gcd 1 (vaD B q e) : Int)))) := by
  rw [PR_eq B L p r k w ab un]
  unfold prB
  rw [hq, if_neg (not_not_intro h), if_neg (by omega : ¬ B q = 59), if_neg (not_not_intro hd), he]
end PRL
theorem vaN_bd {B : Int → Int} {p : Int} : ∀ {n : Nat}, (∀ i, p ≤ i → i < p + n → 48 ≤ B i ∧ B i ≤ 57) → n ≤ 6 → 0 ≤ vaN B p n ∧ vaN B p n ≤ p10 n
  | 0, _, _ => by simp [vaN, p10]
  | n + 1, h, hn => by
    have h1 := vaN_bd (n := n) (fun i a b => h i a (by omega)) (by omega)
    have h2 := h (p + n) (by omega) (by omega)
    have h3 := p10_s (d := (n : Int)) (x := vaN B p n) (c := B (p + n) - 48) (by omega) (by omega) h1.2 (by omega)
    rw [vaN]
    refine ⟨by omega, ?_⟩
    rw [show ((n + 1 : Nat) : Int) = (n : Int) + 1 by omega]
    omega
theorem vaD_bd {B : Int → Int} {L p : Int} (h : de B L p - p ≤ 6) : 0 ≤ vaD B p (de B L p) ∧ vaD B p (de B L p) ≤ 999999 := by
  obtain ⟨h1, _, h3, _⟩ := de_sp B L p
  have := vaN_bd (B := B) (p := p) (n := (de B L p - p).toNat) (fun i a b => (h3 i a (by omega)).2) (by omega)
  have := p10_le ((de B L p - p).toNat : Int)
  unfold vaD
  omega
theorem vaN_s {B : Int → Int} {p i : Int} (h : 0 ≤ i) : vaN B p (i + 1).toNat = 10 * vaN B p i.toNat + (B (p + i) - 48) := by
  rw [show (i + 1).toNat = i.toNat + 1 by omega, vaN, show ((i.toNat : Nat) : Int) = i by omega]
