def anyN (p : Nat → Bool) : Nat → Bool
  | 0 => false
  | n + 1 => anyN p n || p n
theorem anyN_iff {p : Nat → Bool} : ∀ {n : Nat}, anyN p n = true ↔ ∃ k, k < n ∧ p k = true
  | 0 => by
    constructor
    · intro h; cases h
    · rintro ⟨k, h, -⟩; omega
  | n + 1 => by
    show (anyN p n || p n) = true ↔ _
    rw [Bool.or_eq_true, anyN_iff (n := n)]
    constructor
    · rintro (⟨k, h1, h2⟩ | h)
      · exact ⟨k, by omega, h2⟩
      · exact ⟨n, by omega, h⟩
    · rintro ⟨k, h1, h2⟩
      by_cases q : k = n
      · exact Or.inr (q ▸ h2)
      · exact Or.inl ⟨k, by omega, h2⟩
/-- the rows of X have different joined columns by f -/
def Mch (n : Nat) (op : Nat → Nat → Bool) (X : Nat → Bool) (f : Nat → Nat) : Prop := (∀ r, r < n → X r = true → f r < n ∧ op r (f r) = true) ∧ (∀ r r', r < n → r' < n → X r = true → X r' = true → f r = f r' → r = r')
/-- rows that an unpaired row x comes to, by changing pairs -/
def rch (n : Nat) (op : Nat → Nat → Bool) (X : Nat → Bool) (f : Nat → Nat) (x : Nat) : Nat → Nat → Bool
  | 0, r => decide (r = x)
  | d + 1, r => rch n op X f x d r || (X r && anyN (fun r1 => rch n op X f x d r1 && op r1 (f r)) n)
theorem rch_mono {n : Nat} {op : Nat → Nat → Bool} {X : Nat → Bool} {f : Nat → Nat} {x r : Nat} : ∀ {d' d : Nat}, d' ≤ d → rch n op X f x d' r = true → rch n op X f x d r = true := by
  intro d' d h
  induction d with
  | zero => intro q; rwa [show d' = 0 by omega] at q
  | succ d ih =>
    intro q
    by_cases e : d' = d + 1
    · rw [e] at q; exact q
    · show (rch n op X f x d r || _) = true
      rw [ih (by omega) q]; rfl
theorem rch_keep {n : Nat} {op : Nat → Nat → Bool} {X : Nat → Bool} {f : Nat → Nat} {x r c d : Nat} (hr : rch n op X f x d r = false) : ∀ d', d' ≤ d → ∀ r', rch n op X f x d' r' = true → rch n op X (fun k => if k = r then c else f k) x d' r' = true := by
  intro d'
  induction d' with
  | zero => intro _ r' h; exact h
  | succ d' ih =>
    intro hd r' h
    have hne : r' ≠ r := fun q => by
      have := rch_mono hd h
      rw [q, hr] at this
      cases this
    have h1 : (rch n op X f x d' r' || (X r' && anyN (fun r1 => rch n op X f x d' r1 && op r1 (f r')) n)) = true := h
    show (rch n op X (fun k => if k = r then c else f k) x d' r' || (X r' && anyN (fun r1 => rch n op X (fun k => if k = r then c else f k) x d' r1 && op r1 (if r' = r then c else f r')) n)) = true
    rw [if_neg hne]
    rw [Bool.or_eq_true] at h1 ⊢
    rcases h1 with h1 | h1
    · exact Or.inl (ih (by omega) r' h1)
    · refine Or.inr ?_
      rw [Bool.and_eq_true] at h1 ⊢
      refine ⟨h1.1, anyN_iff.mpr ?_⟩
      obtain ⟨r1, a, b⟩ := anyN_iff.mp h1.2
      rw [Bool.and_eq_true] at b
      exact ⟨r1, a, by rw [Bool.and_eq_true]; exact ⟨ih (by omega) r1 b.1, b.2⟩⟩
theorem aug {n : Nat} {op : Nat → Nat → Bool} {X : Nat → Bool} {x : Nat} (hx : x < n) (hX : X x = false) : ∀ (d : Nat) (f : Nat → Nat) (r c : Nat), Mch n op X f → r < n → c < n → rch n op X f x d r = true → op r c = true → (∀ r', r' < n → X r' = true → f r' ≠ c) → ∃ f', Mch n op (fun k => X k || decide (k = x)) f' := by
  intro d
  induction d with
  | zero =>
    intro f r c hm hr hc h ho hf
    have e : r = x := of_decide_eq_true h
    subst e
    refine ⟨fun k => if k = r then c else f k, fun k hk hX' => ?_, fun k k' hk hk' h1 h2 he => ?_⟩
    · dsimp only at hX' ⊢
      by_cases q : k = r
      · rw [if_pos q, q]; exact ⟨hc, ho⟩
      · rw [if_neg q]
        simp [q] at hX'
        exact hm.1 k hk hX'
    · dsimp only at h1 h2 he
      by_cases q : k = r
      · by_cases q' : k' = r
        · rw [q, q']
        · rw [if_pos q, if_neg q'] at he
          simp [q'] at h2
          exact absurd he.symm (hf k' hk' h2)
      · by_cases q' : k' = r
        · rw [if_neg q, if_pos q'] at he
          simp [q] at h1
          exact absurd he (hf k hk h1)
        · rw [if_neg q, if_neg q'] at he
          simp [q] at h1
          simp [q'] at h2
          exact hm.2 k k' hk hk' h1 h2 he
  | succ d ih =>
    intro f r c hm hr hc h ho hf
    cases hd : rch n op X f x d r with
    | true => exact ih f r c hm hr hc hd ho hf
    | false =>
      have h1 : (rch n op X f x d r || (X r && anyN (fun r1 => rch n op X f x d r1 && op r1 (f r)) n)) = true := h
      rw [hd, Bool.false_or, Bool.and_eq_true] at h1
      obtain ⟨r1, a1, a2⟩ := anyN_iff.mp h1.2
      rw [Bool.and_eq_true] at a2
      have hXr := h1.1
      have hfr := hm.1 r hr hXr
      refine ih (fun k => if k = r then c else f k) r1 (f r) ⟨fun k hk hk2 => ?_, fun k k' hk hk' b1 b2 he => ?_⟩ a1 hfr.1 (rch_keep hd d (Nat.le_refl _) r1 a2.1) a2.2 (fun r' hr' hXr' => ?_)
      · dsimp only
        by_cases q : k = r
        · rw [if_pos q, q]; exact ⟨hc, ho⟩
        · rw [if_neg q]; exact hm.1 k hk hk2
      · dsimp only at he
        by_cases q : k = r
        · by_cases q' : k' = r
          · rw [q, q']
          · rw [if_pos q, if_neg q'] at he
            exact absurd he.symm (hf k' hk' b2)
        · by_cases q' : k' = r
          · rw [if_neg q, if_pos q'] at he
            exact absurd he (hf k hk b1)
          · rw [if_neg q, if_neg q'] at he
            exact hm.2 k k' hk hk' b1 b2 he
      · by_cases q : r' = r
        · rw [if_pos q]
          exact fun z => hf r hr hXr z.symm
        · rw [if_neg q]
          exact fun z => q (hm.2 r' r hr' hr hXr' hXr z)
/-- weights: rows A, columns B; a row's columns of B have m less e, a column's rows m at most; e together below m -/
theorem grow {n : Nat} {w : Nat → Nat → Int} {A B X : Nat → Bool} {e : Nat → Int} {m : Int} {x : Nat} {f : Nat → Nat} (hw : ∀ r c, r < n → c < n → 0 ≤ w r c) (he : ∀ r, r < n → 0 ≤ e r)
    (h1 : ∀ r, r < n → A r = true → m - e r ≤ s2 (fun c => if B c = true then w r c else 0) n) (h2 : ∀ c, c < n → B c = true → s2 (fun r => if A r = true then w r c else 0) n ≤ m) (h3 : s2 (fun r => if A r = true then e r else 0) n < m)
    (hm : Mch n (fun r c => decide (0 < w r c) && B c) X f) (hXA : ∀ r, r < n → X r = true → A r = true) (hx : x < n) (hX : X x = false) (hA : A x = true) : ∃ f', Mch n (fun r c => decide (0 < w r c) && B c) (fun k => X k || decide (k = x)) f' := by
  obtain ⟨op, eop⟩ : ∃ op : Nat → Nat → Bool, op = fun r c => decide (0 < w r c) && B c := ⟨_, rfl⟩
  rw [← eop] at hm ⊢
  by_cases hfree : ∃ d r c, r < n ∧ c < n ∧ rch n op X f x d r = true ∧ op r c = true ∧ ∀ r', r' < n → X r' = true → f r' ≠ c
  · obtain ⟨d, r, c, a1, a2, a3, a4, a5⟩ := hfree
    exact aug hx hX d f r c hm a1 a2 a3 a4 a5
  · exfalso
    obtain ⟨R, hR⟩ : ∃ R : Nat → Bool, ∀ r, R r = true ↔ ∃ d, rch n op X f x d r = true := ⟨fun r => @decide (∃ d, rch n op X f x d r = true) (Classical.propDecidable _), fun r => by simp⟩
    have hRx : R x = true := (hR x).mpr ⟨0, by show decide (x = x) = true; simp⟩
    have hRX : ∀ r, r < n → R r = true → r ≠ x → X r = true := by
      intro r hr hrr hne
      obtain ⟨d, hd⟩ := (hR r).mp hrr
      induction d with
      | zero => exact absurd (of_decide_eq_true hd) hne
      | succ d ih =>
        have : (rch n op X f x d r || (X r && anyN (fun r1 => rch n op X f x d r1 && op r1 (f r)) n)) = true := hd
        rw [Bool.or_eq_true] at this
        rcases this with q | q
        · exact ih q
        · rw [Bool.and_eq_true] at q; exact q.1
    have hRA : ∀ r, r < n → R r = true → A r = true := fun r hr h => by
      by_cases q : r = x
      · rw [q]; exact hA
      · exact hXA r hr (hRX r hr h q)
    have close : ∀ r c, r < n → c < n → R r = true → op r c = true → ∃ r2, r2 < n ∧ R r2 = true ∧ X r2 = true ∧ f r2 = c := by
      intro r c hr hc hrr ho
      obtain ⟨d, hd⟩ := (hR r).mp hrr
      by_cases q : ∃ r2, r2 < n ∧ X r2 = true ∧ f r2 = c
      · obtain ⟨r2, b1, b2, b3⟩ := q
        refine ⟨r2, b1, (hR r2).mpr ⟨d + 1, ?_⟩, b2, b3⟩
        show (rch n op X f x d r2 || (X r2 && anyN (fun r1 => rch n op X f x d r1 && op r1 (f r2)) n)) = true
        rw [b2, Bool.true_and, Bool.or_eq_true]
        exact Or.inr (anyN_iff.mpr ⟨r, hr, by rw [Bool.and_eq_true, b3]; exact ⟨hd, ho⟩⟩)
      · exact absurd ⟨d, r, c, hr, hc, hd, ho, fun r' g1 g2 g3 => q ⟨r', g1, g2, g3⟩⟩ hfree
    -- what the rows of R have lies in columns of R and X
    have key : ∀ r, r < n → R r = true → s2 (fun c => if B c = true then w r c else 0) n ≤ s2 (fun r2 => if R r2 = true ∧ X r2 = true then w r (f r2) else 0) n := by
      intro r hr hrr
      have t1 : s2 (fun c => if B c = true then w r c else 0) n ≤ s2 (fun c => s2 (fun r2 => if R r2 = true ∧ X r2 = true ∧ f r2 = c then w r c else 0) n) n := by
        refine s2_le (fun c hc => ?_)
        have nn : ∀ k, k < n → 0 ≤ (if R k = true ∧ X k = true ∧ f k = c then w r c else 0) := fun k hk => by
          split
          · exact hw r c hr hc
          · exact Int.le_refl _
        by_cases hp : 0 < w r c ∧ B c = true
        · rw [if_pos hp.2]
          obtain ⟨r2, b1, b2, b3, b4⟩ := close r c hr hc hrr (by rw [eop]; simp [hp.1, hp.2])
          have := s2_part (f := fun k => if R k = true ∧ X k = true ∧ f k = c then w r c else 0) nn b1
          rw [if_pos ⟨b2, b3, b4⟩] at this
          exact this
        · have h0 := s2_nn nn
          have h00 := hw r c hr hc
          split
          · next q => have : ¬ 0 < w r c := fun z => hp ⟨z, q⟩; omega
          · exact h0
      refine Int.le_trans t1 ?_
      rw [s2_swap (fun c r2 => if R r2 = true ∧ X r2 = true ∧ f r2 = c then w r c else 0) n n]
      refine s2_le (fun r2 hr2 => ?_)
      by_cases q : R r2 = true ∧ X r2 = true
      · rw [if_pos q]
        have e1 : s2 (fun c => if R r2 = true ∧ X r2 = true ∧ f r2 = c then w r c else 0) n = s2 (fun c => if c = f r2 then w r c else 0) n := s2_cg (fun c hc => by
          by_cases z : c = f r2
          · rw [if_pos z, if_pos ⟨q.1, q.2, z.symm⟩]
          · rw [if_neg z, if_neg (fun y => z y.2.2.symm)])
        rw [e1, s2_one (fun c => w r c) (hm.1 r2 hr2 q.2).1]
        exact Int.le_refl _
      · rw [if_neg q]
        have e1 : s2 (fun c => if R r2 = true ∧ X r2 = true ∧ f r2 = c then w r c else 0) n = s2 (fun _ => 0) n := s2_cg (fun c hc => if_neg (fun y => q ⟨y.1, y.2.1⟩))
        rw [e1, s2_0]
        exact Int.le_refl _
    have c1 : s2 (fun r => if R r = true then m - e r else 0) n ≤ s2 (fun r => if R r = true then s2 (fun r2 => if R r2 = true ∧ X r2 = true then w r (f r2) else 0) n else 0) n := s2_le (fun r hr => by
      by_cases q : R r = true
      · rw [if_pos q, if_pos q]; exact Int.le_trans (h1 r hr (hRA r hr q)) (key r hr q)
      · rw [if_neg q, if_neg q]; exact Int.le_refl _)
    have c2 : s2 (fun r => if R r = true then s2 (fun r2 => if R r2 = true ∧ X r2 = true then w r (f r2) else 0) n else 0) n = s2 (fun r2 => s2 (fun r => if R r = true then (if R r2 = true ∧ X r2 = true then w r (f r2) else 0) else 0) n) n := by
      rw [← s2_swap (fun r r2 => if R r = true then (if R r2 = true ∧ X r2 = true then w r (f r2) else 0) else 0) n n]
      refine s2_cg (fun r hr => ?_)
      by_cases q : R r = true
      · rw [if_pos q]
        exact s2_cg (fun r2 _ => by rw [if_pos q])
      · rw [if_neg q]
        have : s2 (fun r2 => if R r = true then (if R r2 = true ∧ X r2 = true then w r (f r2) else 0) else 0) n = s2 (fun _ => 0) n := s2_cg (fun r2 _ => if_neg q)
        rw [this, s2_0]
    have c3 : s2 (fun r2 => s2 (fun r => if R r = true then (if R r2 = true ∧ X r2 = true then w r (f r2) else 0) else 0) n) n ≤ s2 (fun r2 => if R r2 = true ∧ X r2 = true then m else 0) n := s2_le (fun r2 hr2 => by
      by_cases q : R r2 = true ∧ X r2 = true
      · rw [if_pos q]
        have hf2 := hm.1 r2 hr2 q.2
        have hB2 : B (f r2) = true := by
          have := hf2.2
          rw [eop] at this
          simp at this
          exact this.2
        refine Int.le_trans (s2_le (fun r hr => ?_)) (h2 (f r2) hf2.1 hB2)
        by_cases z : R r = true
        · rw [if_pos z, if_pos q, if_pos (hRA r hr z)]; exact Int.le_refl _
        · rw [if_neg z]
          split
          · exact hw r (f r2) hr hf2.1
          · exact Int.le_refl _
      · rw [if_neg q]
        have : s2 (fun r => if R r = true then (if R r2 = true ∧ X r2 = true then w r (f r2) else 0) else 0) n = s2 (fun _ => 0) n := s2_cg (fun r _ => by rw [if_neg q]; split <;> rfl)
        rw [this, s2_0]
        exact Int.le_refl _)
    have c4 : s2 (fun r => if R r = true then m - e r else 0) n = s2 (fun r => if R r = true ∧ X r = true then m else 0) n + m - s2 (fun r => if R r = true then e r else 0) n := by
      have e1 : s2 (fun r => if R r = true then m - e r else 0) n = s2 (fun r => ((if R r = true ∧ X r = true then m else 0) + (if r = x then m else 0)) - (if R r = true then e r else 0)) n := s2_cg (fun r hr => by
        by_cases q : r = x
        · subst q
          rw [if_pos hRx, if_pos hRx, if_pos rfl, if_neg (by rw [hX]; simp)]
          omega
        · by_cases z : R r = true
          · rw [if_pos z, if_pos z, if_neg q, if_pos ⟨z, hRX r hr z q⟩]
            omega
          · rw [if_neg z, if_neg z, if_neg q, if_neg (fun y => z y.1)]
            omega)
      rw [e1, s2_sub, s2_add, s2_one (fun _ => m) hx]
    have c5 : s2 (fun r => if R r = true then e r else 0) n ≤ s2 (fun r => if A r = true then e r else 0) n := s2_le (fun r hr => by
      by_cases z : R r = true
      · rw [if_pos z, if_pos (hRA r hr z)]; exact Int.le_refl _
      · rw [if_neg z]
        split
        · exact he r hr
        · exact Int.le_refl _)
    omega
theorem hall {n : Nat} {w : Nat → Nat → Int} {A B : Nat → Bool} {e : Nat → Int} {m : Int} (hw : ∀ r c, r < n → c < n → 0 ≤ w r c) (he : ∀ r, r < n → 0 ≤ e r)
    (h1 : ∀ r, r < n → A r = true → m - e r ≤ s2 (fun c => if B c = true then w r c else 0) n) (h2 : ∀ c, c < n → B c = true → s2 (fun r => if A r = true then w r c else 0) n ≤ m) (h3 : s2 (fun r => if A r = true then e r else 0) n < m) : ∃ f, Mch n (fun r c => decide (0 < w r c) && B c) A f := by
  have key : ∀ k, k ≤ n → ∃ f, Mch n (fun r c => decide (0 < w r c) && B c) (fun r => A r && decide (r < k)) f := by
    intro k
    induction k with
    | zero =>
      intro _
      exact ⟨fun _ => 0, fun r hr h => by simp at h, fun r r' hr hr' h => by simp at h⟩
    | succ k ih =>
      intro hk
      obtain ⟨f, hf⟩ := ih (by omega)
      cases hA : A k with
      | false =>
        have cv : ∀ r, (A r && decide (r < k + 1)) = true → (A r && decide (r < k)) = true := fun r h => by
          rw [Bool.and_eq_true] at h ⊢
          refine ⟨h.1, decide_eq_true ?_⟩
          have h2 := of_decide_eq_true h.2
          have h3 : r ≠ k := fun q => by rw [q, hA] at h; cases h.1
          omega
        exact ⟨f, fun r hr h => hf.1 r hr (cv r h), fun r r' hr hr' g g' => hf.2 r r' hr hr' (cv r g) (cv r' g')⟩
      | true =>
        obtain ⟨f', hf'⟩ := grow (X := fun r => A r && decide (r < k)) (x := k) hw he h1 h2 h3 hf (fun r _ h => by rw [Bool.and_eq_true] at h; exact h.1) (by omega) (by simp) hA
        have cv : ∀ r, (A r && decide (r < k + 1)) = true → ((A r && decide (r < k)) || decide (r = k)) = true := fun r h => by
          rw [Bool.and_eq_true] at h
          have h2 := of_decide_eq_true h.2
          by_cases q : r = k
          · simp [q]
          · have : r < k := by omega
            simp [h.1, this]
        exact ⟨f', fun r hr h => hf'.1 r hr (cv r h), fun r r' hr hr' g g' => hf'.2 r r' hr hr' (cv r g) (cv r' g')⟩
  obtain ⟨f, hf⟩ := key n (Nat.le_refl _)
  exact ⟨f, fun r hr h => hf.1 r hr (by simp [h, hr]), fun r r' hr hr' g g' => hf.2 r r' hr hr' (by simp [g, hr]) (by simp [g', hr'])⟩
