/-! small sets as numbers below 256 -/
theorem fin2 {P : Int → Int → Prop} (h : ∀ s : Fin 256, ∀ j : Fin 8, P (s.val : Int) (j.val : Int)) {s j : Int} (h1 : 0 ≤ s) (h2 : s < 256) (h3 : 0 ≤ j) (h4 : j < 8) : P s j := by
  obtain ⟨a, rfl⟩ := Int.eq_ofNat_of_zero_le h1
  obtain ⟨b, rfl⟩ := Int.eq_ofNat_of_zero_le h3
  exact h ⟨a, by omega⟩ ⟨b, by omega⟩
theorem fin1 {P : Int → Prop} (h : ∀ s : Fin 256, P (s.val : Int)) {s : Int} (h1 : 0 ≤ s) (h2 : s < 256) : P s := by
  obtain ⟨a, rfl⟩ := Int.eq_ofNat_of_zero_le h1
  exact h ⟨a, by omega⟩
theorem fin9 {P : Int → Int → Prop} (h : ∀ s : Fin 256, ∀ j : Fin 9, P (s.val : Int) (j.val : Int)) {s j : Int} (h1 : 0 ≤ s) (h2 : s < 256) (h3 : 0 ≤ j) (h4 : j ≤ 8) : P s j := by
  obtain ⟨a, rfl⟩ := Int.eq_ofNat_of_zero_le h1
  obtain ⟨b, rfl⟩ := Int.eq_ofNat_of_zero_le h3
  exact h ⟨a, by omega⟩ ⟨b, by omega⟩
def bt (s j : Int) : Bool := s.toNat.testBit j.toNat
def sB (s j : Int) : Int := ((s.toNat ||| 2 ^ j.toNat : Nat) : Int)
def pc (s : Int) : Int := s % 2 + s / 2 % 2 + s / 4 % 2 + s / 8 % 2 + s / 16 % 2 + s / 32 % 2 + s / 64 % 2 + s / 128 % 2
def p2 (n : Int) : Int := ((2 ^ n.toNat : Nat) : Int)
theorem bit_get : ∀ s : Fin 256, ∀ j : Fin 8, iand (ishr (s.val : Int) (j.val : Int)) 1 = if bt (s.val : Int) (j.val : Int) = true then 1 else 0 := by decide +kernel
theorem bit_put : ∀ s : Fin 256, ∀ j : Fin 8, ior (s.val : Int) (ishl 1 (j.val : Int)) = sB (s.val : Int) (j.val : Int) := by decide +kernel
theorem bit_pc : ∀ s : Fin 256, ∀ j : Fin 8, bt (s.val : Int) (j.val : Int) = false → pc (sB (s.val : Int) (j.val : Int)) = pc (s.val : Int) + 1 ∧ (s.val : Int) < sB (s.val : Int) (j.val : Int) := by decide +kernel
theorem bit_lt : ∀ s : Fin 256, ∀ n : Fin 9, ((s.val : Int) < p2 (n.val : Int) - 1 → pc (s.val : Int) < (n.val : Int)) ∧ ((s.val : Int) = p2 (n.val : Int) - 1 → pc (s.val : Int) = (n.val : Int)) ∧ 0 ≤ pc (s.val : Int) ∧ pc (s.val : Int) ≤ 8 := by decide +kernel
theorem bit_half : ∀ s : Fin 256, pc (s.val : Int) = (s.val : Int) % 2 + pc ((s.val : Int) / 2) := by decide +kernel
theorem p2_bd : ∀ n : Fin 9, ishl 1 (n.val : Int) = p2 (n.val : Int) ∧ 1 ≤ p2 (n.val : Int) ∧ p2 (n.val : Int) ≤ 256 ∧ (1 ≤ (n.val : Int) → 2 ≤ p2 (n.val : Int)) := by decide +kernel
theorem bitG {s j : Int} (h1 : 0 ≤ s ∧ s < 256) (h2 : 0 ≤ j ∧ j < 8) : iand (ishr s j) 1 = if bt s j = true then 1 else 0 := fin2 (P := fun s j => iand (ishr s j) 1 = if bt s j = true then 1 else 0) bit_get h1.1 h1.2 h2.1 h2.2
theorem bitP {s j : Int} (h1 : 0 ≤ s ∧ s < 256) (h2 : 0 ≤ j ∧ j < 8) : ior s (ishl 1 j) = sB s j := fin2 (P := fun s j => ior s (ishl 1 j) = sB s j) bit_put h1.1 h1.2 h2.1 h2.2
theorem bitC {s j : Int} (h1 : 0 ≤ s ∧ s < 256) (h2 : 0 ≤ j ∧ j < 8) (h : bt s j = false) : pc (sB s j) = pc s + 1 ∧ s < sB s j := fin2 (P := fun s j => bt s j = false → pc (sB s j) = pc s + 1 ∧ s < sB s j) bit_pc h1.1 h1.2 h2.1 h2.2 h
theorem bitL {s n : Int} (h1 : 0 ≤ s ∧ s < 256) (h2 : 0 ≤ n ∧ n ≤ 8) : (s < p2 n - 1 → pc s < n) ∧ (s = p2 n - 1 → pc s = n) ∧ 0 ≤ pc s ∧ pc s ≤ 8 := fin9 (P := fun s n => (s < p2 n - 1 → pc s < n) ∧ (s = p2 n - 1 → pc s = n) ∧ 0 ≤ pc s ∧ pc s ≤ 8) bit_lt h1.1 h1.2 h2.1 h2.2
theorem bitH {s : Int} (h1 : 0 ≤ s ∧ s < 256) : pc s = s % 2 + pc (s / 2) := fin1 (P := fun s => pc s = s % 2 + pc (s / 2)) bit_half h1.1 h1.2
theorem bit2 {n : Int} (h : 0 ≤ n ∧ n ≤ 8) : ishl 1 n = p2 n ∧ 1 ≤ p2 n ∧ p2 n ≤ 256 ∧ (1 ≤ n → 2 ≤ p2 n) := by
  obtain ⟨b, rfl⟩ := Int.eq_ofNat_of_zero_le h.1
  exact p2_bd ⟨b, by omega⟩
theorem bt_sB {s j k : Int} (hj : 0 ≤ j) (hk : 0 ≤ k) : bt (sB s j) k = (bt s k || decide (k = j)) := by
  unfold bt sB
  rw [Int.toNat_natCast, Nat.testBit_or, Nat.testBit_two_pow]
  congr 1
  by_cases h : k = j
  · subst h; simp
  · have : j.toNat ≠ k.toNat := by omega
    simp [h, this]
theorem sB_lt {s j n : Int} (h1 : 0 ≤ s ∧ s < p2 n) (h2 : 0 ≤ j ∧ j < n) : 0 ≤ sB s j ∧ sB s j < p2 n := by
  refine ⟨by unfold sB; omega, ?_⟩
  unfold sB p2 at *
  have a : s.toNat < 2 ^ n.toNat := by omega
  have b : 2 ^ j.toNat < 2 ^ n.toNat := Nat.pow_lt_pow_right (by decide) (by omega)
  have := Nat.or_lt_two_pow a b
  omega
theorem bt_0 (j : Int) : bt 0 j = false := by simp [bt]
/-! existence of a pairing by weights: rows of a set find different columns -/
def s2 (f : Nat → Int) : Nat → Int
  | 0 => 0
  | n + 1 => s2 f n + f n
theorem s2_cg {f g : Nat → Int} : ∀ {n : Nat}, (∀ k, k < n → f k = g k) → s2 f n = s2 g n
  | 0, _ => rfl
  | n + 1, h => by
    show s2 f n + f n = s2 g n + g n
    rw [s2_cg (fun k hk => h k (by omega)), h n (by omega)]
theorem s2_le {f g : Nat → Int} : ∀ {n : Nat}, (∀ k, k < n → f k ≤ g k) → s2 f n ≤ s2 g n
  | 0, _ => Int.le_refl _
  | n + 1, h => by
    have h1 := s2_le (n := n) (fun k hk => h k (by omega))
    have h2 := h n (by omega)
    show s2 f n + f n ≤ s2 g n + g n
    omega
theorem s2_add (f g : Nat → Int) : ∀ n, s2 (fun k => f k + g k) n = s2 f n + s2 g n
  | 0 => rfl
  | n + 1 => by
    have h := s2_add f g n
    show s2 (fun k => f k + g k) n + (f n + g n) = s2 f n + f n + (s2 g n + g n)
    omega
theorem s2_sub (f g : Nat → Int) : ∀ n, s2 (fun k => f k - g k) n = s2 f n - s2 g n
  | 0 => rfl
  | n + 1 => by
    have h := s2_sub f g n
    show s2 (fun k => f k - g k) n + (f n - g n) = s2 f n + f n - (s2 g n + g n)
    omega
theorem s2_mul (f : Nat → Int) (c : Int) : ∀ n, s2 (fun k => f k * c) n = s2 f n * c
  | 0 => by show (0 : Int) = 0 * c; omega
  | n + 1 => by
    have h := s2_mul f c n
    show s2 (fun k => f k * c) n + f n * c = (s2 f n + f n) * c
    rw [h, Int.add_mul]
theorem s2_0 : ∀ n, s2 (fun _ => 0) n = 0
  | 0 => rfl
  | n + 1 => by
    show s2 (fun _ => 0) n + 0 = 0
    rw [s2_0 n]; rfl
theorem s2_nn {f : Nat → Int} {n : Nat} (h : ∀ k, k < n → 0 ≤ f k) : 0 ≤ s2 f n := by
  have := s2_le (f := fun _ => 0) (g := f) (n := n) h
  rwa [s2_0] at this
theorem s2_swap (f : Nat → Nat → Int) (m : Nat) : ∀ n, s2 (fun i => s2 (f i) m) n = s2 (fun j => s2 (fun i => f i j) n) m
  | 0 => by
    show (0 : Int) = s2 (fun _ => 0) m
    rw [s2_0]
  | n + 1 => by
    have h := s2_swap f m n
    show s2 (fun i => s2 (f i) m) n + s2 (f n) m = s2 (fun j => s2 (fun i => f i j) n + f n j) m
    rw [h, s2_add]
/-- one place alone -/
theorem s2_one {x : Nat} (v : Nat → Int) : ∀ {n : Nat}, x < n → s2 (fun k => if k = x then v k else 0) n = v x
  | n + 1, h => by
    show s2 (fun k => if k = x then v k else 0) n + (if n = x then v n else 0) = v x
    by_cases q : n = x
    · subst q
      rw [if_pos rfl]
      have : s2 (fun k => if k = n then v k else 0) n = s2 (fun _ => 0) n := s2_cg (fun k hk => if_neg (by omega))
      rw [this, s2_0]
      omega
    · rw [if_neg q, s2_one v (by omega)]
      omega
theorem s2_part {f : Nat → Int} {x : Nat} : ∀ {n : Nat}, (∀ k, k < n → 0 ≤ f k) → x < n → f x ≤ s2 f n
  | n + 1, h, hx => by
    have h1 := s2_nn (f := f) (n := n) (fun k hk => h k (by omega))
    have h2 := h n (by omega)
    show f x ≤ s2 f n + f n
    by_cases q : x = n
    · subst q; omega
    · have := s2_part (n := n) (fun k hk => h k (by omega)) (by omega : x < n)
      omega
