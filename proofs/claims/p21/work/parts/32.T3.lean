/-! from pairings to sets, and even tables -/
theorem bt_cs {f : Int → Int} : ∀ {k : Nat}, (∀ i : Int, 0 ≤ i → i < k → 0 ≤ f i) → ∀ {c : Int}, 0 ≤ c → (bt (cs f k) c = true ↔ ∃ i : Int, 0 ≤ i ∧ i < k ∧ f i = c)
  | 0, _, c, hc => by
    show bt 0 c = true ↔ _
    rw [bt_0]
    constructor
    · intro h; cases h
    · rintro ⟨i, h1, h2, -⟩; omega
  | k + 1, h, c, hc => by
    show bt (sB (cs f k) (f k)) c = true ↔ _
    rw [bt_sB (h k (by omega) (by omega)) hc, Bool.or_eq_true, bt_cs (k := k) (fun i a b => h i a (by omega)) hc, decide_eq_true_eq]
    constructor
    · rintro (⟨i, h1, h2, h3⟩ | h1)
      · exact ⟨i, h1, by omega, h3⟩
      · exact ⟨k, by omega, by omega, h1.symm⟩
    · rintro ⟨i, h1, h2, h3⟩
      by_cases q : i = k
      · exact Or.inr (by rw [← h3, q])
      · exact Or.inl ⟨i, h1, by omega, h3⟩
/-- columns that rows have, one each -/
def perm (n : Int) (f : Int → Int) : Prop := (∀ i, 0 ≤ i → i < n → 0 ≤ f i ∧ f i < n) ∧ ∀ i k, 0 ≤ i → i < k → k < n → f i ≠ f k
theorem cpl_of {n : Int} {op : Int → Int → Prop} {f : Int → Int} (hn : 0 ≤ n) (hf : perm n f) (ho : ∀ i, 0 ≤ i → i < n → op i (f i)) : cpl n op n.toNat 0 := by
  have key : ∀ m : Nat, (m : Int) ≤ n → cpl n op m (cs f (n - m).toNat) := by
    intro m
    induction m with
    | zero => intro _; trivial
    | succ m ih =>
      intro hm
      have e : (n - (m : Nat)).toNat = (n - ((m + 1 : Nat) : Int)).toNat + 1 := by omega
      have h1 := ih (by omega)
      have hk : (((n - ((m + 1 : Nat) : Int)).toNat : Nat) : Int) = n - ((m + 1 : Nat) : Int) := by omega
      rw [e] at h1
      have h2 : cpl n op m (sB (cs f (n - ((m + 1 : Nat) : Int)).toNat) (f (((n - ((m + 1 : Nat) : Int)).toNat : Nat) : Int))) := h1
      rw [hk] at h2
      have hb := hf.1 (n - ((m + 1 : Nat) : Int)) (by omega) (by omega)
      refine ⟨f (n - ((m + 1 : Nat) : Int)), hb.1, hb.2, ?_, ho _ (by omega) (by omega), h2⟩
      cases hq : bt (cs f (n - ((m + 1 : Nat) : Int)).toNat) (f (n - ((m + 1 : Nat) : Int))) with
      | false => rfl
      | true =>
        obtain ⟨i, a1, a2, a3⟩ := (bt_cs (fun i a b => (hf.1 i a (by omega)).1) hb.1).mp hq
        exact absurd a3 (hf.2 i _ a1 (by omega) (by omega))
  have := key n.toNat (by omega)
  rw [show (n - ((n.toNat : Nat) : Int)).toNat = 0 by omega] at this
  exact this
theorem lexCh_perm {n : Int} {op : Int → Int → Prop} {ch : Int → Int} (h : lexCh n op ch) : perm n ch ∧ ∀ i, 0 ≤ i → i < n → op (pc (cs ch i.toNat)) (ch i) := by
  refine ⟨⟨fun i a b => ⟨(h i a b).1, (h i a b).2.1⟩, fun i k a b c q => ?_⟩, fun i a b => (h i a b).2.2.1.2.1⟩
  have h1 := (h k (by omega) c).2.2.1.1
  have h2 : bt (cs ch k.toNat) (ch k) = true := (bt_cs (fun j x y => (h j x (by omega)).1) (h k (by omega) c).1).mpr ⟨i, a, by omega, q⟩
  rw [h1] at h2
  cases h2
theorem lexCh_pc {n : Int} {op : Int → Int → Prop} {ch : Int → Int} (hn : n ≤ 8) (h : lexCh n op ch) : ∀ i : Nat, (i : Int) ≤ n → 0 ≤ cs ch i ∧ cs ch i < p2 n ∧ pc (cs ch i) = i := by
  intro i
  induction i with
  | zero => intro h0; exact ⟨Int.le_refl _, by show (0 : Int) < p2 n; exact Int.lt_of_lt_of_le (by decide) (bit2 (n := n) (by omega)).2.1, by show pc 0 = 0; simp [pc]⟩
  | succ i ih =>
    intro hi
    obtain ⟨h1, h2, h3⟩ := ih (by omega)
    have hh := h i (by omega) (by omega)
    have h4 := (bit2 (n := n) (by omega)).2.2.1
    rw [Int.toNat_natCast] at hh
    obtain ⟨l1, l2⟩ := sB_lt (s := cs ch i) (j := ch i) (n := n) ⟨h1, h2⟩ ⟨hh.1, hh.2.1⟩
    have h5 := (bitC (s := cs ch i) (j := ch i) ⟨h1, by omega⟩ ⟨hh.1, by omega⟩ hh.2.2.1.1).1
    refine ⟨l1, l2, ?_⟩
    have h6 : cs ch (i + 1) = sB (cs ch i) (ch i) := rfl
    rw [h6]
    omega
theorem s2_sm (f : Int → Int) : ∀ n : Nat, s2 (fun k => f (k : Int)) n = sm f n
  | 0 => rfl
  | n + 1 => by
    show s2 (fun k => f (k : Int)) n + f n = sm f n + f n
    rw [s2_sm f n]
/-- an even table of numbers -/
def EvW (n : Int) (w : Int → Int → Int) (m : Int) : Prop := (∀ i j, 0 ≤ i → i < n → 0 ≤ j → j < n → 0 ≤ w i j) ∧ (∀ i, 0 ≤ i → i < n → sm (fun j => w i j) n.toNat = m) ∧ (∀ j, 0 ≤ j → j < n → sm (fun i => w i j) n.toNat = m)
/-- there is a choice of cells above 0, through a cell above 0 where one is told -/
theorem birk {n : Int} {w : Int → Int → Int} {m : Int} (h : EvW n w m) (hm : 0 < m) (hn : 0 ≤ n) : ∃ f, perm n f ∧ ∀ i, 0 ≤ i → i < n → 0 < w i (f i) := by
  obtain ⟨h1, h2, h3⟩ := h
  obtain ⟨f, hf⟩ := hall (n := n.toNat) (w := fun r c => w r c) (A := fun _ => true) (B := fun _ => true) (e := fun _ => 0) (m := m) (fun r c a b => h1 r c (by omega) (by omega) (by omega) (by omega)) (fun r _ => Int.le_refl _)
    (fun r a _ => by simp only [if_true]; rw [s2_sm (fun c => w r c), h2 r (by omega) (by omega)]; omega) (fun c a _ => by simp only [if_true]; rw [s2_sm (fun r => w r c), h3 c (by omega) (by omega)]; omega) (by simp only [if_true]; rw [s2_0]; exact hm)
  refine ⟨fun i => (f i.toNat : Int), ⟨fun i a b => ?_, fun i k a b c q => ?_⟩, fun i a b => ?_⟩
  · have := (hf.1 i.toNat (by omega) rfl).1
    dsimp only
    exact ⟨by omega, by omega⟩
  · have := hf.2 i.toNat k.toNat (by omega) (by omega) rfl rfl (by dsimp only at q; omega)
    omega
  · have := (hf.1 i.toNat (by omega) rfl).2
    simp at this
    rwa [show max i 0 = i by omega] at this
theorem birk2 {n : Int} {w : Int → Int → Int} {m i0 j0 : Int} (h : EvW n w m) (hi : 0 ≤ i0 ∧ i0 < n) (hj : 0 ≤ j0 ∧ j0 < n) (hp : 0 < w i0 j0) : ∃ f, perm n f ∧ f i0 = j0 ∧ ∀ i, 0 ≤ i → i < n → 0 < w i (f i) := by
  obtain ⟨h1, h2, h3⟩ := h
  obtain ⟨N, eN⟩ : ∃ N : Nat, (N : Int) = n := ⟨n.toNat, by omega⟩
  obtain ⟨a, ea⟩ : ∃ N : Nat, (N : Int) = i0 := ⟨i0.toNat, by omega⟩
  obtain ⟨b, eb⟩ : ∃ N : Nat, (N : Int) = j0 := ⟨j0.toNat, by omega⟩
  subst eN; subst ea; subst eb
  simp only [Int.toNat_natCast] at h2 h3
  have hrow : ∀ r : Nat, r < N → s2 (fun c => w r c) N = m := fun r hr => by rw [s2_sm (fun c => w r c)]; exact h2 r (by omega) (by omega)
  have hcol : ∀ c : Nat, c < N → s2 (fun r => w r c) N = m := fun c hc => by rw [s2_sm (fun r => w r c)]; exact h3 c (by omega) (by omega)
  have hnn : ∀ r c : Nat, r < N → c < N → 0 ≤ w r c := fun r c x y => h1 r c (by omega) (by omega) (by omega) (by omega)
  obtain ⟨f, hf⟩ := hall (n := N) (w := fun r c => w r c) (A := fun r => decide (r ≠ a)) (B := fun c => decide (c ≠ b)) (e := fun r => w r b) (m := m) hnn (fun r x => hnn r b x (by omega))
    (fun r x _ => by
      have e1 : s2 (fun c => if decide (c ≠ b) = true then w r c else 0) N = s2 (fun c => w r c - (if c = b then w r c else 0)) N := s2_cg (fun c _ => by
        by_cases q : c = b
        · simp [q]
        · simp [q])
      rw [e1, s2_sub, s2_one (fun c => w r c) (by omega), hrow r x]
      exact Int.le_refl _)
    (fun c x _ => by
      rw [← hcol c x]
      exact s2_le (fun r y => by split; exact Int.le_refl _; exact hnn r c y x))
    (by
      have e1 : s2 (fun r => if decide (r ≠ a) = true then w r b else 0) N = s2 (fun r => w r b - (if r = a then w r b else 0)) N := s2_cg (fun r _ => by
        by_cases q : r = a
        · simp [q]
        · simp [q])
      rw [e1, s2_sub, s2_one (fun r => w r b) (by omega), hcol b (by omega)]
      omega)
  refine ⟨fun i => if i = a then b else (f i.toNat : Int), ⟨fun i x y => ?_, fun i k x y z q => ?_⟩, if_pos rfl, fun i x y => ?_⟩
  · dsimp only
    split
    · exact ⟨by omega, by omega⟩
    · next q =>
      have := (hf.1 i.toNat (by omega) (by simp; omega)).1
      exact ⟨by omega, by omega⟩
  · dsimp only at q
    have nb : ∀ i : Int, 0 ≤ i → i < N → i ≠ a → (f i.toNat : Int) ≠ b := fun i x y z => by
      have := (hf.1 i.toNat (by omega) (by simp; omega)).2
      simp at this
      have := this.2
      omega
    by_cases q1 : i = a
    · rw [if_pos q1, if_neg (by omega)] at q
      exact nb k (by omega) z (by omega) q.symm
    · by_cases q2 : k = a
      · rw [if_neg q1, if_pos q2] at q
        exact nb i x (by omega) q1 q
      · rw [if_neg q1, if_neg q2] at q
        have := hf.2 i.toNat k.toNat (by omega) (by omega) (by simp; omega) (by simp; omega) (by omega)
        omega
  · dsimp only
    split
    · next q => rw [q]; exact hp
    · next q =>
      have := (hf.1 i.toNat (by omega) (by simp; omega)).2
      simp at this
      have h9 := this.1
      rwa [show max i 0 = i by omega] at h9
/-- every column has one row -/
theorem perm_col {n : Int} {f : Int → Int} (hn : 0 ≤ n) (h : perm n f) (v : Int) {j : Int} (hj : 0 ≤ j ∧ j < n) : sm (fun i => if f i = j then v else 0) n.toNat = v := by
  obtain ⟨N, eN⟩ : ∃ N : Nat, (N : Int) = n := ⟨n.toNat, by omega⟩
  subst eN
  rw [Int.toNat_natCast, ← s2_sm]
  have cnt1 : ∀ c : Nat, c < N → s2 (fun i : Nat => if f i = c then (1 : Int) else 0) N ≤ 1 := by
    intro c hc
    by_cases q : ∃ i : Nat, i < N ∧ f i = c
    · obtain ⟨i, a1, a2⟩ := q
      have : s2 (fun k : Nat => if f k = c then (1 : Int) else 0) N = s2 (fun k => if k = i then (1 : Int) else 0) N := s2_cg (fun k hk => by
        by_cases z : k = i
        · rw [if_pos z, z, if_pos a2]
        · rw [if_neg z, if_neg]
          intro y
          rcases Nat.lt_or_ge k i with w | w
          · exact h.2 k i (by omega) (by omega) (by omega) (by rw [y, a2])
          · exact h.2 i k (by omega) (by omega) (by omega) (by rw [y, a2]))
      rw [this, s2_one (fun _ => 1) a1]
      exact Int.le_refl _
    · have : s2 (fun k : Nat => if f k = c then (1 : Int) else 0) N = s2 (fun _ => 0) N := s2_cg (fun k hk => if_neg (fun y => q ⟨k, hk, y⟩))
      rw [this, s2_0]
      decide
  have tot : s2 (fun c : Nat => s2 (fun i : Nat => if f i = c then (1 : Int) else 0) N) N = s2 (fun _ => 1) N := by
    rw [s2_swap (fun c i : Nat => if f i = c then (1 : Int) else 0) N N]
    refine s2_cg (fun i hi => ?_)
    have hb := h.1 i (by omega) (by omega)
    have : s2 (fun c : Nat => if f i = c then (1 : Int) else 0) N = s2 (fun c => if c = (f i).toNat then (1 : Int) else 0) N := s2_cg (fun c hc => by
      by_cases z : f i = c
      · rw [if_pos z, if_pos (by omega)]
      · rw [if_neg z, if_neg (by omega)])
    rw [this, s2_one (fun _ => 1) (by omega)]
  have one : ∀ c : Nat, c < N → s2 (fun i : Nat => if f i = c then (1 : Int) else 0) N = 1 := by
    intro c hc
    have h1 := cnt1 c hc
    have h2 : s2 (fun c' : Nat => s2 (fun i : Nat => if f i = c' then (1 : Int) else 0) N) N ≤ s2 (fun c' => (1 : Int) - (if c' = c then (1 - s2 (fun i : Nat => if f i = c' then (1 : Int) else 0) N) else 0)) N := s2_le (fun c' hc' => by
      split
      · omega
      · have := cnt1 c' hc'; omega)
    rw [s2_sub, s2_one (fun c' => 1 - s2 (fun i : Nat => if f i = c' then (1 : Int) else 0) N) hc, tot] at h2
    omega
  have e := one j.toNat (by omega)
  have e2 : s2 (fun i : Nat => if f i = j then v else 0) N = s2 (fun i : Nat => (if f i = ((j.toNat : Nat) : Int) then (1 : Int) else 0) * v) N := s2_cg (fun i hi => by
    by_cases z : f i = j
    · rw [if_pos z, if_pos (by omega)]; omega
    · rw [if_neg z, if_neg (by omega)]; omega)
  rw [e2, s2_mul, e]
  omega
