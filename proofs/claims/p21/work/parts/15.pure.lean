/-- a loop whose head has an empty stack -/
theorem lpO {α : Type} {sh : eSh} {M : eM} {pc : Nat} {Q : eS → Option eV → Prop} (L : α → List (Option eV)) (S : α → eS) (I : α → Prop) (μ : α → Nat) (hs : ∀ a, I a → (∀ b, I b → μ b < μ a → Ok sh M pc (L b) [] (S b) Q) → Ok sh M pc (L a) [] (S a) Q) (a : α) (ha : I a) : Ok sh M pc (L a) [] (S a) Q :=
  lp (fun a => Ok sh M pc (L a) [] (S a) Q) I μ hs a ha
theorem lpO2 {α β : Type} {sh : eSh} {M : eM} {pc : Nat} {Q : eS → Option eV → Prop} (L : α → β → List (Option eV)) (S : α → β → eS) (I : α → β → Prop) (μ : α → β → Nat) (hs : ∀ a b, I a b → (∀ a' b', I a' b' → μ a' b' < μ a b → Ok sh M pc (L a' b') [] (S a' b') Q) → Ok sh M pc (L a b) [] (S a b) Q) (a : α) (b : β) (ha : I a b) : Ok sh M pc (L a b) [] (S a b) Q :=
  lp (fun q : α × β => Ok sh M pc (L q.1 q.2) [] (S q.1 q.2) Q) (fun q => I q.1 q.2) (fun q => μ q.1 q.2) (fun q hq ih => hs q.1 q.2 hq (fun a' b' h1 h2 => ih (a', b') h1 h2)) (a, b) ha
theorem lpO3 {α β γ : Type} {sh : eSh} {M : eM} {pc : Nat} {Q : eS → Option eV → Prop} (L : α → β → γ → List (Option eV)) (S : α → β → γ → eS) (I : α → β → γ → Prop) (μ : α → β → γ → Nat) (hs : ∀ a b c, I a b c → (∀ a' b' c', I a' b' c' → μ a' b' c' < μ a b c → Ok sh M pc (L a' b' c') [] (S a' b' c') Q) → Ok sh M pc (L a b c) [] (S a b c) Q) (a : α) (b : β) (c : γ) (ha : I a b c) : Ok sh M pc (L a b c) [] (S a b c) Q :=
  lp (fun q : α × β × γ => Ok sh M pc (L q.1 q.2.1 q.2.2) [] (S q.1 q.2.1 q.2.2) Q) (fun q => I q.1 q.2.1 q.2.2) (fun q => μ q.1 q.2.1 q.2.2) (fun q hq ih => hs q.1 q.2.1 q.2.2 hq (fun a' b' c' h1 h2 => ih (a', b', c') h1 h2)) (a, b, c) ha
theorem lpO4 {α β γ δ : Type} {sh : eSh} {M : eM} {pc : Nat} {Q : eS → Option eV → Prop} (L : α → β → γ → δ → List (Option eV)) (S : α → β → γ → δ → eS) (I : α → β → γ → δ → Prop) (μ : α → β → γ → δ → Nat) (hs : ∀ a b c d, I a b c d → (∀ a' b' c' d', I a' b' c' d' → μ a' b' c' d' < μ a b c d → Ok sh M pc (L a' b' c' d') [] (S a' b' c' d') Q) → Ok sh M pc (L a b c d) [] (S a b c d) Q) (a : α) (b : β) (c : γ) (d : δ) (ha : I a b c d) : Ok sh M pc (L a b c d) [] (S a b c d) Q :=
  lp (fun q : α × β × γ × δ => Ok sh M pc (L q.1 q.2.1 q.2.2.1 q.2.2.2) [] (S q.1 q.2.1 q.2.2.1 q.2.2.2) Q) (fun q => I q.1 q.2.1 q.2.2.1 q.2.2.2) (fun q => μ q.1 q.2.1 q.2.2.1 q.2.2.2) (fun q hq ih => hs q.1 q.2.1 q.2.2.1 q.2.2.2 hq (fun a' b' c' d' h1 h2 => ih (a', b', c', d') h1 h2)) (a, b, c, d) ha
/-- some locals forgotten -/
def eFg : List (Option eV) → List (Option eV) → Prop
  | [], [] => True
  | none :: l, _ :: l' => eFg l l'
  | some v :: l, x :: l' => x = some v ∧ eFg l l'
  | _, _ => False
theorem eFg_at : ∀ {l l' : List (Option eV)}, eFg l l' → l.length = l'.length ∧ ∀ (i : Nat) (v : eV), l[i]? = some (some v) → l'[i]? = some (some v)
  | [], [], _ => ⟨rfl, fun i v h => by simp at h⟩
  | none :: l, x :: l', h => by
    obtain ⟨h1, h2⟩ := eFg_at (l := l) (l' := l') h
    refine ⟨by simp [h1], fun i v q => ?_⟩
    cases i with
    | zero => simp at q
    | succ i => rw [List.getElem?_cons_succ] at q ⊢; exact h2 i v q
  | some w :: l, x :: l', h => by
    obtain ⟨h1, h2⟩ := eFg_at (l := l) (l' := l') h.2
    refine ⟨by simp [h1], fun i v q => ?_⟩
    cases i with
    | zero => rw [h.1]; exact q
    | succ i => rw [List.getElem?_cons_succ] at q ⊢; exact h2 i v q
  | [], _ :: _, h => h.elim
  | _ :: _, [], h => by cases ‹Option eV› <;> exact h.elim
theorem ok_fg {sh : eSh} {M : eM} {pc : Nat} {ls : List (Option eV)} {st : List eV} {σ : eS} {Q : eS → Option eV → Prop} (ls' : List (Option eV)) (h : eFg ls' ls) (k : Ok sh M pc ls' st σ Q) : Ok sh M pc ls st σ Q := fun l p e s m args below meth c D dA ad H locs la C hH hL hS => by
  obtain ⟨h1, h2⟩ := eFg_at h
  exact k l p e s m args below meth c D dA ad H locs la C hH ⟨hL.1, h1.trans hL.2.1, hL.2.2.1, fun i v q => hL.2.2.2 i v (h2 i v q)⟩ hS
/-- sums -/
def sm (f : Int → Int) : Nat → Int
  | 0 => 0
  | n + 1 => sm f n + f n
theorem sm_s (f : Int → Int) {j : Int} (h : 0 ≤ j) : sm f (j + 1).toNat = sm f j.toNat + f j := by
  have : (j + 1).toNat = j.toNat + 1 := by omega
  rw [this]
  show _ + f ((j.toNat : Nat) : Int) = _
  rw [Int.toNat_of_nonneg h]
theorem sm_cg {f g : Int → Int} : ∀ {n : Nat}, (∀ k : Int, 0 ≤ k → k < n → f k = g k) → sm f n = sm g n
  | 0, _ => rfl
  | n + 1, h => by
    show sm f n + f n = sm g n + g n
    rw [sm_cg (n := n) (fun k h1 h2 => h k h1 (by omega)), h n (by omega) (by omega)]
theorem sm_bd {f : Int → Int} {B : Int} (hB : 0 ≤ B) : ∀ {n : Nat}, (∀ k : Int, 0 ≤ k → k < n → 0 ≤ f k ∧ f k ≤ B) → 0 ≤ sm f n ∧ sm f n ≤ B * n
  | 0, _ => ⟨Int.le_refl _, by show (0 : Int) ≤ B * 0; omega⟩
  | n + 1, h => by
    have h1 := sm_bd hB (n := n) (fun k h1 h2 => h k h1 (by omega))
    have h2 := h n (by omega) (by omega)
    show 0 ≤ sm f n + f n ∧ sm f n + f n ≤ B * ((n + 1 : Nat) : Int)
    have e : B * ((n + 1 : Nat) : Int) = B * n + B := by rw [Int.natCast_add, Int.mul_add]; simp
    rw [e]
    omega
theorem sm_le {f : Int → Int} : ∀ {n : Nat}, (∀ k : Int, 0 ≤ k → k < n → 0 ≤ f k) → ∀ k : Int, 0 ≤ k → k < n → f k ≤ sm f n
  | 0, _, k, h1, h2 => by omega
  | n + 1, h, k, h1, h2 => by
    have h3 : 0 ≤ sm f n := by
      have : ∀ m : Nat, m ≤ n → 0 ≤ sm f m := by
        intro m hm
        induction m with
        | zero => exact Int.le_refl _
        | succ m ih =>
          have a := ih (by omega)
          have b := h m (by omega) (by omega)
          show 0 ≤ sm f m + f m
          omega
      exact this n (Nat.le_refl _)
    show f k ≤ sm f n + f n
    by_cases hk : k < n
    · have a := sm_le (n := n) (fun k h1 h2 => h k h1 (by omega)) k h1 hk
      have b := h n (by omega) (by omega)
      omega
    · have : k = n := by omega
      subst this
      omega
/-- products of small numbers -/
theorem ix8 {n i j : Int} (hn : 0 ≤ n ∧ n ≤ 8) (hi : 0 ≤ i ∧ i < n) (hj : 0 ≤ j ∧ j < n) : 0 ≤ n * i ∧ n * i ≤ 56 ∧ n * i + j < n * n ∧ n * n ≤ 64 := by
  have : n = 0 ∨ n = 1 ∨ n = 2 ∨ n = 3 ∨ n = 4 ∨ n = 5 ∨ n = 6 ∨ n = 7 ∨ n = 8 := by omega
  rcases this with rfl | rfl | rfl | rfl | rfl | rfl | rfl | rfl | rfl <;> omega
theorem sq8 {n : Int} (hn : 0 ≤ n ∧ n ≤ 8) : 0 ≤ n * n ∧ n * n ≤ 64 := by
  have : n = 0 ∨ n = 1 ∨ n = 2 ∨ n = 3 ∨ n = 4 ∨ n = 5 ∨ n = 6 ∨ n = 7 ∨ n = 8 := by omega
  rcases this with rfl | rfl | rfl | rfl | rfl | rfl | rfl | rfl | rfl <;> omega
theorem gcd_step {a b : Int} (ha : 0 ≤ a) (hb : 0 < b) : Int.gcd b (a % b) = Int.gcd a b := by
  obtain ⟨m, rfl⟩ := Int.eq_ofNat_of_zero_le ha
  obtain ⟨n, rfl⟩ := Int.eq_ofNat_of_zero_le (Int.le_of_lt hb)
  show Nat.gcd n (((m : Int) % (n : Int)).natAbs) = Nat.gcd m n
  rw [← Int.natCast_emod, Int.natAbs_natCast, Nat.gcd_comm n, ← Nat.gcd_rec, Nat.gcd_comm]
theorem gcd_0 {a : Int} (ha : 0 ≤ a) : (Int.gcd a 0 : Int) = a := by
  obtain ⟨m, rfl⟩ := Int.eq_ofNat_of_zero_le ha
  show ((Nat.gcd m 0 : Nat) : Int) = _
  rw [Nat.gcd_zero_right]
theorem gcd_pos {a b : Int} (ha : 0 < a) : 1 ≤ (Int.gcd a b : Int) ∧ (Int.gcd a b : Int) ≤ a := by
  have h1 : 0 < Int.gcd a b := Int.gcd_pos_of_ne_zero_left b (by omega)
  have h2 := Int.gcd_dvd_left a b
  have h3 := Int.le_of_dvd ha h2
  exact ⟨by omega, h3⟩
/-- states that are alike off a region -/
def fr (P : Nat → Int → Prop) (σ σ' : eS) : Prop := ∀ c k, ¬ P c k → σ' c k = σ c k
theorem fr.rf {P : Nat → Int → Prop} {σ : eS} : fr P σ σ := fun _ _ _ => rfl
theorem fr.tr {P : Nat → Int → Prop} {σ σ' σ'' : eS} (h : fr P σ σ') (h' : fr P σ' σ'') : fr P σ σ'' := fun c k hc => (h' c k hc).trans (h c k hc)
theorem fr.mono {P P' : Nat → Int → Prop} {σ σ' : eS} (h : fr P σ σ') (hl : ∀ c k, P c k → P' c k) : fr P' σ σ' := fun c k hc => h c k (fun q => hc (hl c k q))
theorem up_if (σ : eS) (c c' : Nat) (k k' z : Int) : up σ c k z c' k' = if c' = c ∧ k' = k then z else σ c' k' := rfl
theorem fr_up {P : Nat → Int → Prop} {σ σ' : eS} {c : Nat} {k z : Int} (h : fr P σ σ') (hc : P c k) : fr P σ (up σ' c k z) := by
  intro c' k' hc'
  rw [up_if, if_neg (fun q => hc' (by rw [q.1, q.2]; exact hc))]
  exact h c' k' hc'
section E6
variable {sh : eSh} {M : eM} {pc pc' : Nat} {st : List eV} {σ : eS} {Q : eS → Option eV → Prop}
theorem ok_lst18 (i : Nat) {r : List (Option eV)} {y2 : Option eV} {x0 x1 x2 x3 x4 x5 x6 x7 x8 x9 x10 x11 x12 x13 x14 x15 x16 x17 y : Option eV} {z : Int} (hd : nth (eTab M) i = some (pc, .lstore 18, pc')) (hn : pc + 2 = pc') (hp : eNl x17 = true) (k : Ok sh M pc' (x0 :: x1 :: x2 :: x3 :: x4 :: x5 :: x6 :: x7 :: x8 :: x9 :: x10 :: x11 :: x12 :: x13 :: x14 :: x15 :: x16 :: x17 :: some (vl z) :: none :: r) st σ Q) : Ok sh M pc (x0 :: x1 :: x2 :: x3 :: x4 :: x5 :: x6 :: x7 :: x8 :: x9 :: x10 :: x11 :: x12 :: x13 :: x14 :: x15 :: x16 :: x17 :: y :: y2 :: r) (vl z :: st) σ Q :=
  og_len fun h => og_lstore (k := 18) i hd hn (by rw [← h]; simp) (by show Ok sh M pc' (x0 :: x1 :: x2 :: x3 :: x4 :: x5 :: x6 :: x7 :: x8 :: x9 :: x10 :: x11 :: x12 :: x13 :: x14 :: x15 :: x16 :: eClr x17 :: some (vl z) :: none :: r) st σ Q; rw [eClr_id hp]; exact k)
end E6
theorem ok_pop2 {sh : eSh} {M : eM} {pc pc' : Nat} {ls : List (Option eV)} {st : List eV} {σ : eS} {Q : eS → Option eV → Prop} (i : Nat) {z : Int} (hd : nth (eTab M) i = some (pc, .pop2, pc')) (hn : pc + 1 = pc') (k : Ok sh M pc' ls st σ Q) : Ok sh M pc ls (vl z :: st) σ Q := by
  intro l p e s m args below meth c D dA ad H locs la C hH hL hS
  exact lv_pop2_2 C.2.1 C.2.2.1 (C.1.dec hd hn) rfl (Ok.go k C hH hL hS.2 hn rfl)
