/-! HOW MANY CHOICES: from the first rows on, or from the last ones back -/
def CAk (n : Int) (w : Int → Int → Int) : Nat → Int → Int
  | 0, _ => 1
  | m + 1, s => sm (fun j => if bt s j = false then w (n - ((m + 1 : Nat) : Int)) j * CAk n w m (sB s j) else 0) n.toNat
theorem sm_s2 (f : Int → Int) : ∀ n : Nat, sm f n = s2 (fun k => f (k : Int)) n
  | 0 => rfl
  | n + 1 => by show sm f n + f n = s2 (fun k => f (k : Int)) n + f n; rw [sm_s2 f n]
/-- a sum goes over its places in any order that is its own way back -/
theorem s2_inv {h : Nat → Int} {φ : Nat → Nat} {N : Nat} (h1 : ∀ S, S < N → φ S < N) (h2 : ∀ S, S < N → φ (φ S) = S) : s2 (fun S => h (φ S)) N = s2 h N := by
  have a : s2 (fun S => h (φ S)) N = s2 (fun S => s2 (fun T => if T = φ S then h T else 0) N) N := s2_cg (fun S hS => (s2_one (x := φ S) h (h1 S hS)).symm)
  have b : s2 h N = s2 (fun T => s2 (fun S => if T = φ S then h T else 0) N) N := s2_cg (fun T hT => by
    have : s2 (fun S => if T = φ S then h T else 0) N = s2 (fun S => if S = φ T then (fun _ => h T) S else 0) N := s2_cg (fun S hS => by
      by_cases q : T = φ S
      · rw [if_pos q, if_pos (by rw [q, h2 S hS])]
      · rw [if_neg q, if_neg (fun w => q (by rw [w, h2 T hT]))])
    rw [this, s2_one (x := φ T) (fun _ => h T) (h1 T hT)])
  rw [a, b]
  exact s2_swap (fun S T => if T = φ S then h T else 0) N N
theorem bit_xs : ∀ s : Fin 256, ∀ j : Fin 8, bt (s.val : Int) (j.val : Int) = false → ixor (s.val : Int) (ishl 1 (j.val : Int)) = sB (s.val : Int) (j.val : Int) := by decide +kernel
theorem bitXs {s j : Int} (h1 : 0 ≤ s ∧ s < 256) (h2 : 0 ≤ j ∧ j < 8) (h : bt s j = false) : ixor s (ishl 1 j) = sB s j := fin2 (P := fun s j => bt s j = false → ixor s (ishl 1 j) = sB s j) bit_xs h1.1 h1.2 h2.1 h2.2 h
theorem bt_tf {s j : Int} (h : ¬ bt s j = true) : bt s j = false := by cases q : bt s j with | false => rfl | true => exact absurd q h
theorem x_inv {n s j : Int} (hn : 0 ≤ n ∧ n ≤ 8) (hs : 0 ≤ s ∧ s < p2 n) (hj : 0 ≤ j ∧ j < n) : (0 ≤ ixor s (ishl 1 j) ∧ ixor s (ishl 1 j) < p2 n) ∧ ixor (ixor s (ishl 1 j)) (ishl 1 j) = s := by
  have b := bit2 hn
  have s256 : 0 ≤ s ∧ s < 256 := ⟨hs.1, by omega⟩
  by_cases q : bt s j = true
  · have x := bitX s256 ⟨hj.1, by omega⟩ q
    have y := bitXp s256 ⟨hj.1, by omega⟩ q
    refine ⟨⟨x.1, by omega⟩, ?_⟩
    rw [bitXs ⟨x.1, by omega⟩ ⟨hj.1, by omega⟩ y.2.2, y.2.1]
  · have q := bt_tf q
    have y := sB_lt hs hj
    rw [bitXs s256 ⟨hj.1, by omega⟩ q]
    exact ⟨y, bitSx s256 ⟨hj.1, by omega⟩ q⟩
def phi (n : Int) (w : Int → Int → Int) (k : Nat) : Int := s2 (fun S => if pc (S : Int) = (k : Int) then PMk n.toNat w k S * CAk n w (n.toNat - k) S else 0) (p2 n).toNat
theorem mul_s2 (c : Int) (f : Nat → Int) (n : Nat) : c * s2 f n = s2 (fun k => c * f k) n := by
  rw [Int.mul_comm, ← s2_mul]
  exact s2_cg (fun k _ => Int.mul_comm _ _)
theorem phi_s {n : Int} {w : Int → Int → Int} (hn : 0 ≤ n ∧ n ≤ 8) {k : Nat} (hk : (k : Int) < n) : phi n w k = phi n w (k + 1) := by
  have b := bit2 hn
  have em : n.toNat - k = (n.toNat - (k + 1)) + 1 := by omega
  have ek : n - (((n.toNat - (k + 1)) + 1 : Nat) : Int) = (k : Int) := by omega
  have l : phi n w k = s2 (fun S => s2 (fun j => if pc (S : Int) = (k : Int) ∧ bt (S : Int) (j : Int) = false then PMk n.toNat w k S * (w k j * CAk n w (n.toNat - (k + 1)) (sB S j)) else 0) n.toNat) (p2 n).toNat := by
    refine s2_cg (fun S hS => ?_)
    by_cases q : pc (S : Int) = (k : Int)
    · rw [if_pos q, em, CAk, sm_s2, mul_s2]
      refine s2_cg (fun j hj => ?_)
      by_cases y : bt (S : Int) (j : Int) = false
      · rw [if_pos y, if_pos ⟨q, y⟩, ek]
      · rw [if_neg y, if_neg (fun z => y z.2), Int.mul_zero]
    · rw [if_neg q]
      have : s2 (fun j => if pc (S : Int) = (k : Int) ∧ bt (S : Int) (j : Int) = false then PMk n.toNat w k S * (w k j * CAk n w (n.toNat - (k + 1)) (sB S j)) else 0) n.toNat = s2 (fun _ => 0) n.toNat := s2_cg (fun j hj => if_neg (fun z => q z.1))
      rw [this, s2_0]
  have r : phi n w (k + 1) = s2 (fun S => s2 (fun j => if pc (S : Int) = ((k + 1 : Nat) : Int) ∧ bt (S : Int) (j : Int) = true then w k j * PMk n.toNat w k (ixor S (ishl 1 j)) * CAk n w (n.toNat - (k + 1)) S else 0) n.toNat) (p2 n).toNat := by
    refine s2_cg (fun S hS => ?_)
    by_cases q : pc (S : Int) = ((k + 1 : Nat) : Int)
    · rw [if_pos q, PMk, sm_s2, ← s2_mul]
      refine s2_cg (fun j hj => ?_)
      by_cases y : bt (S : Int) (j : Int) = true
      · rw [if_pos y, if_pos ⟨q, y⟩]
      · rw [if_neg y, if_neg (fun z => y z.2), Int.zero_mul]
    · rw [if_neg q]
      have : s2 (fun j => if pc (S : Int) = ((k + 1 : Nat) : Int) ∧ bt (S : Int) (j : Int) = true then w k j * PMk n.toNat w k (ixor S (ishl 1 j)) * CAk n w (n.toNat - (k + 1)) S else 0) n.toNat = s2 (fun _ => 0) n.toNat := s2_cg (fun j hj => if_neg (fun z => q z.1))
      rw [this, s2_0]
  rw [l, r, s2_swap, s2_swap (fun S j => if pc (S : Int) = ((k + 1 : Nat) : Int) ∧ bt (S : Int) (j : Int) = true then w k j * PMk n.toNat w k (ixor S (ishl 1 j)) * CAk n w (n.toNat - (k + 1)) S else 0)]
  refine s2_cg (fun j hj => ?_)
  have inv : ∀ S : Nat, S < (p2 n).toNat → (0 ≤ ixor (S : Int) (ishl 1 (j : Int)) ∧ ixor (S : Int) (ishl 1 (j : Int)) < p2 n) ∧ ixor (ixor (S : Int) (ishl 1 (j : Int))) (ishl 1 (j : Int)) = (S : Int) := fun S hS => x_inv hn ⟨by omega, by omega⟩ ⟨by omega, by omega⟩
  have e := s2_inv (h := fun T => if pc (T : Int) = ((k + 1 : Nat) : Int) ∧ bt (T : Int) (j : Int) = true then w k j * PMk n.toNat w k (ixor T (ishl 1 j)) * CAk n w (n.toNat - (k + 1)) T else 0) (φ := fun S => (ixor (S : Int) (ishl 1 (j : Int))).toNat) (N := (p2 n).toNat) (fun S hS => by have := (inv S hS).1; omega) (fun S hS => by
    have x := inv S hS
    try dsimp only
    rw [Int.toNat_of_nonneg x.1.1, x.2]; exact Int.toNat_natCast S)
  rw [← e]
  refine s2_cg (fun S hS => ?_)
  have x := inv S hS
  try dsimp only
  rw [Int.toNat_of_nonneg x.1.1, x.2]
  by_cases y : bt (S : Int) (j : Int) = true
  · have z := bitXp (s := S) (j := j) ⟨by omega, by omega⟩ ⟨by omega, by omega⟩ y
    rw [if_neg (fun c => by rw [y] at c; exact absurd c.2 (by decide)), if_neg (fun c => by rw [z.2.2] at c; exact absurd c.2 (by decide))]
  · have y := bt_tf y
    have z := bitXs (s := S) (j := j) ⟨by omega, by omega⟩ ⟨by omega, by omega⟩ y
    have p := (bitC (s := S) (j := j) ⟨by omega, by omega⟩ ⟨by omega, by omega⟩ y).1
    have bj : bt (sB (S : Int) (j : Int)) (j : Int) = true := by rw [bt_sB (by omega) (by omega)]; simp
    rw [z]
    by_cases q : pc (S : Int) = (k : Int)
    · rw [if_pos ⟨q, y⟩, if_pos ⟨by rw [p, q]; omega, bj⟩, Int.mul_left_comm, Int.mul_assoc]
    · rw [if_neg (fun c => q c.1), if_neg (fun c => q (by have := c.1; rw [p] at this; omega))]
theorem CA_PM {n : Int} {w : Int → Int → Int} (hn : 0 ≤ n ∧ n ≤ 8) : CAk n w n.toNat 0 = PMv n w (p2 n - 1) := by
  have b := bit2 hn
  have all : ∀ k : Nat, (k : Int) ≤ n → phi n w 0 = phi n w k := by
    intro k
    induction k with
    | zero => intro _; rfl
    | succ k ih => intro h; rw [ih (by omega)]; exact phi_s hn (by omega)
  have h0 : phi n w 0 = CAk n w n.toNat 0 := by
    have : phi n w 0 = s2 (fun S => if S = 0 then (fun S : Nat => PMk n.toNat w 0 S * CAk n w (n.toNat - 0) S) S else 0) (p2 n).toNat := s2_cg (fun S hS => by
      by_cases q : S = 0
      · rw [if_pos q, if_pos (by rw [q]; exact pc_0)]
      · rw [if_neg q, if_neg (fun c => by have := pc1 (s := (S : Int)) ⟨by omega, by omega⟩ (by omega); omega)])
    rw [this, s2_one _ (by omega)]
    show 1 * CAk n w n.toNat 0 = _
    rw [Int.one_mul]
  have hN : phi n w n.toNat = PMv n w (p2 n - 1) := by
    have pf := (bitL (s := p2 n - 1) (n := n) ⟨by omega, by omega⟩ hn).2.1 rfl
    have : phi n w n.toNat = s2 (fun S => if S = (p2 n - 1).toNat then (fun S : Nat => PMk n.toNat w n.toNat S * CAk n w (n.toNat - n.toNat) S) S else 0) (p2 n).toNat := s2_cg (fun S hS => by
      by_cases q : S = (p2 n - 1).toNat
      · rw [if_pos q, if_pos (by rw [q, Int.toNat_of_nonneg (by omega), pf]; omega)]
      · rw [if_neg q, if_neg (fun c => by have := (bitL (s := (S : Int)) (n := n) ⟨by omega, by omega⟩ hn).1 (by omega); omega)])
    rw [this, s2_one _ (by omega)]
    try dsimp only
    rw [Nat.sub_self, Int.toNat_of_nonneg (by omega)]
    show PMk n.toNat w n.toNat (p2 n - 1) * 1 = _
    rw [Int.mul_one]
    unfold PMv
    rw [pf]
  rw [← h0, ← hN]
  exact all n.toNat (by omega)
def e8 : Nat → Int
  | 0 => 1
  | m + 1 => 8 * e8 m
theorem e8_bd : ∀ m : Nat, m ≤ 8 → 1 ≤ e8 m ∧ e8 m ≤ 16777216 := by
  intro m h
  have : m = 0 ∨ m = 1 ∨ m = 2 ∨ m = 3 ∨ m = 4 ∨ m = 5 ∨ m = 6 ∨ m = 7 ∨ m = 8 := by omega
  rcases this with q | q | q | q | q | q | q | q | q <;> subst q <;> decide
theorem CAk_bd {n : Int} {w : Int → Int → Int} (hn : 0 ≤ n ∧ n ≤ 8) (hw : ∀ i j, 0 ≤ i → i < n → 0 ≤ j → j < n → 0 ≤ w i j ∧ w i j ≤ 1) : ∀ (m : Nat) (s : Int), (m : Int) ≤ n → 0 ≤ CAk n w m s ∧ CAk n w m s ≤ e8 m
  | 0, s, _ => by show (0 : Int) ≤ 1 ∧ (1 : Int) ≤ 1; decide
  | m + 1, s, h => by
    have eb := (e8_bd m (by omega)).1
    rw [CAk]
    have := sm_bd (f := fun j => if bt s j = false then w (n - ((m + 1 : Nat) : Int)) j * CAk n w m (sB s j) else 0) (B := e8 m) (by omega) (n := n.toNat) (fun j a b => by
      try dsimp only
      split
      · have x := hw (n - ((m + 1 : Nat) : Int)) j (by omega) (by omega) a (by omega)
        have y := CAk_bd hn hw m (sB s j) (by omega)
        refine ⟨Int.mul_nonneg x.1 y.1, ?_⟩
        rcases (by omega : w (n - ((m + 1 : Nat) : Int)) j = 0 ∨ w (n - ((m + 1 : Nat) : Int)) j = 1) with q | q
        · rw [q, Int.zero_mul]; omega
        · rw [q, Int.one_mul]; exact y.2
      · omega)
    refine ⟨this.1, Int.le_trans this.2 ?_⟩
    show e8 m * (n.toNat : Int) ≤ 8 * e8 m
    rw [Int.mul_comm]
    exact Int.mul_le_mul_of_nonneg_right (by omega) (by omega)
def w01 (op : Int → Int → Prop) (z : Int → Int → Int) : Prop := ∀ i j, (op i j ∧ z i j = 1) ∨ (¬ op i j ∧ z i j = 0)
theorem t_Ch_countAll {σ : eS} {J n : Int} {op : Int → Int → Prop} {w : Int → Int → Int} (hn : 0 ≤ n ∧ n ≤ 8) (hJ : jOf J n op) (hw : w01 op w) : MtL shA M_Ch_countAll [vr 16, vl J, vi n] σ (fun σ' z => fr (fun c _ => c = 18) σ σ' ∧ z = CAk n w n.toNat 0 ∧ 0 ≤ z ∧ z ≤ 16777216) := by
  refine Mt.of okM_Ch_countAll (Nat.le_of_ble_eq_true rfl) (fun hk hg => ?_)
  have b2 := bit2 hn
  have wb : ∀ i j, 0 ≤ i → i < n → 0 ≤ j → j < n → 0 ≤ w i j ∧ w i j ≤ 1 := fun i j _ _ _ _ => by rcases hw i j with q | q <;> omega
  have cb : ∀ T, 0 ≤ T → T < p2 n → 0 ≤ CAk n w (n - pc T).toNat T ∧ CAk n w (n - pc T).toNat T ≤ 16777216 := fun T a b => by
    have p := pc_bd hn ⟨a, b⟩
    have x := CAk_bd hn wb (n - pc T).toNat T (by omega)
    have y := e8_bd (n - pc T).toNat (by omega)
    omega
  refine ok_iconst 0 rfl rfl (by decide) (ok_iload_n 1 rfl rfl rfl (ok_ishl 2 rfl rfl ?_))
  rw [b2.1]
  refine ok_iconst 3 rfl rfl (by decide) (ok_isub 4 rfl rfl (by first | omega | (simp [up_if]; omega) | (simp [up_if] at *; omega)) (ok_ist4 5 rfl rfl rfl (ok_aload_n 6 rfl rfl rfl (ok_getR 7 rfl rfl fl_X0_15 rfl rfl (ok_iload 8 rfl rfl rfl (ok_lconst (w := 1) 9 rfl rfl rfl (by decide) (ok_last 10 rfl rfl rfl (by first | omega | (simp [up_if]; omega) | (simp [up_if] at *; omega)) (ok_iload 11 rfl rfl rfl (ok_iconst 12 rfl rfl (by decide) (ok_isub 13 rfl rfl (by first | omega | (simp [up_if]; omega) | (simp [up_if] at *; omega)) (ok_ist5 14 rfl rfl rfl ?_)))))))))))
  refine lpO2 (fun (s : Int) (_ : eS) => [some (vr 16), some (vl J), none, some (vi n), some (vi (p2 n - 1)), some (vi s), none, none, none, none]) (fun _ ρ => ρ) (fun s ρ => -1 ≤ s ∧ s < p2 n - 1 ∧ fr (fun c _ => c = 18) σ ρ ∧ ∀ T, s < T → T < p2 n → ρ 18 T = CAk n w (n - pc T).toNat T) (fun s _ => (s + 1).toNat) ?_ (p2 n - 1 - 1) _ ⟨by omega, by omega, fr_up fr.rf rfl, fun T a b => by
    have pf := (bitL (s := p2 n - 1) (n := n) ⟨by omega, by omega⟩ hn).2.1 rfl
    rw [show T = p2 n - 1 by omega, up_same, pf, Int.sub_self]; rfl⟩
  rintro s ρ ⟨s1, s2, f, hT⟩ ih
  refine ok_iload 15 rfl rfl rfl (ok_if_lt 16 102 rfl rfl rfl (fun h23 => ?_) (fun h23 => ?_))
  · refine ok_aload_n 59 rfl rfl rfl (ok_getR 60 rfl rfl fl_X0_15 rfl rfl (ok_iconst 61 rfl rfl (by decide) (ok_lald 62 rfl rfl rfl (by first | omega | (simp [up_if]; omega) | (simp [up_if] at *; omega)) (ok_lret 63 rfl rfl rfl ?_))))
    have e0 := hT 0 (by omega) (by omega)
    rw [pc_0, Int.sub_zero] at e0
    have := cb 0 (by omega) (by omega)
    rw [pc_0, Int.sub_zero] at this
    exact ⟨_, rfl, f, e0, by omega, by omega⟩
  · refine ok_lload_n 17 rfl rfl rfl (ok_iload 18 rfl rfl rfl (ok_callSI (M' := M_Ji_bitCount) (as := [_]) 19 rfl rfl ml_X0_38 (s_Ji_bitCount) ⟨Nat.le_of_ble_eq_true rfl, Nat.le_of_ble_eq_true rfl⟩ rfl (Nat.le_of_ble_eq_true rfl) (fun σ' z hz => ?_)))
    rw [hz.1, hz.2]
    clear hz z σ'
    refine ok_callSI (M' := M_Jo_rowOf) (as := [_, _]) 20 rfl rfl ml_X0_26 (s_Jo_rowOf) ⟨Nat.le_of_ble_eq_true rfl, Nat.le_of_ble_eq_true rfl⟩ rfl (Nat.le_of_ble_eq_true rfl) (fun σ' z hz => ?_)
    rw [hz.1, hz.2]
    clear hz z σ'
    refine ok_iload 21 rfl rfl rfl (ok_iconst 22 rfl rfl (by decide) (ok_ixor 23 rfl rfl (ok_iand 24 rfl rfl (ok_ist6 25 rfl rfl rfl (ok_lconst (w := 0) 26 rfl rfl rfl (by decide) (ok_lst7 27 rfl rfl rfl (ok_iconst 28 rfl rfl (by decide) (ok_ist9 29 rfl rfl rfl ?_))))))))
    have p1 := (bitL (s := s) ⟨by omega, by omega⟩ hn)
    have p3 := p1.1 s2
    have p4 := p1.2.2.1
    clear p1
    rw [bcP (s := s) ⟨by omega, by omega⟩]
    obtain ⟨o, eo⟩ : ∃ o : Int, o = iand (rowJ J (pc s)) (ixor s (-1)) := ⟨_, rfl⟩
    rw [← eo]
    obtain ⟨F, eF⟩ : ∃ F : Int → Int, F = fun j => if bt s j = false then w (pc s) j * CAk n w (n - pc s - 1).toNat (sB s j) else 0 := ⟨_, rfl⟩
    have hF : ∀ j, F j = if bt s j = false then w (pc s) j * CAk n w (n - pc s - 1).toNat (sB s j) else 0 := fun j => by rw [eF]
    have hA : CAk n w (n - pc s).toNat s = sm F n.toNat := by
      rw [show (n - pc s).toNat = (n - pc s - 1).toNat + 1 by omega, CAk, eF, show n - (((n - pc s - 1).toNat + 1 : Nat) : Int) = pc s by omega]
    clear eF
    have term : ∀ j, 0 ≤ j → j < n → bt s j = false → op (pc s) j → F j = ρ 18 (sB s j) ∧ 0 ≤ ρ 18 (sB s j) ∧ ρ 18 (sB s j) ≤ 16777216 := fun j a b c d => by
      have sl := sB_lt (s := s) (j := j) (n := n) ⟨by omega, by omega⟩ ⟨a, b⟩
      have sp := bitC (s := s) (j := j) ⟨by omega, by omega⟩ ⟨a, by omega⟩ c
      have e := hT (sB s j) sp.2 sl.2
      have := cb _ sl.1 sl.2
      rw [hF, if_pos c]
      rcases hw (pc s) j with y | y
      · rw [y.2, Int.one_mul, e, sp.1, show n - (pc s + 1) = n - pc s - 1 by omega]
        rw [sp.1, show n - (pc s + 1) = n - pc s - 1 by omega] at this
        exact ⟨rfl, this.1, this.2⟩
      · exact absurd d y.1
    have no : ∀ j, ¬ (bt s j = false ∧ op (pc s) j) → F j = 0 := fun j c => by
      rw [hF]
      by_cases y : bt s j = false
      · rw [if_pos y]
        rcases hw (pc s) j with x | x
        · exact absurd ⟨y, x.1⟩ c
        · rw [x.2, Int.zero_mul]
      · rw [if_neg y]
    refine lpO2 (fun (v j : Int) => [some (vr 16), some (vl J), none, some (vi n), some (vi (p2 n - 1)), some (vi s), some (vi o), some (vl v), none, some (vi j)]) (fun _ _ => ρ) (fun v j => 0 ≤ j ∧ j ≤ n ∧ 0 ≤ v ∧ v ≤ 16777216 * j ∧ v = sm F j.toNat) (fun _ j => (8 - j).toNat) ?_ 0 0 ⟨by omega, by omega, by omega, by omega, rfl⟩
    rintro v j ⟨j1, j2, v1, v2, v3⟩ ih2
    have es := sm_s F j1
    rw [← v3] at es
    refine ok_iload 30 rfl rfl rfl (ok_iload_n 31 rfl rfl rfl (ok_icmp_ge 32 87 rfl rfl rfl (fun h51 => ?_) (fun h51 => ?_)))
    · refine ok_aload_n 52 rfl rfl rfl (ok_getR 53 rfl rfl fl_X0_15 rfl rfl (ok_iload 54 rfl rfl rfl (ok_lload 55 rfl rfl rfl (ok_last 56 rfl rfl rfl (by first | omega | (simp [up_if]; omega) | (simp [up_if] at *; omega)) (ok_inc5 57 rfl rfl rfl (by first | omega | (simp [up_if]; omega) | (simp [up_if] at *; omega)) (ok_goto 58 21 rfl rfl rfl ?_))))))
      refine ok_fg [some (vr 16), some (vl J), none, some (vi n), some (vi (p2 n - 1)), some (vi (s + -1)), none, none, none, none] ⟨rfl, rfl, rfl, rfl, rfl, trivial⟩ (ih (s + -1) _ ⟨by omega, by omega, fr_up f rfl, fun T a b => ?_⟩ (by omega))
      by_cases q : T = s
      · rw [q, up_same, hA, v3, show j = n by omega]
      · rw [up_nk _ _ _ _ q]; exact hT T (by omega) b
    · have hop := open_sp hn hJ (T := s) ⟨by omega, by omega⟩ ⟨p4, p3⟩ (j := j) ⟨j1, by omega⟩
      rw [← eo] at hop
      have sl := sB_lt (s := s) (j := j) (n := n) ⟨by omega, by omega⟩ ⟨j1, by omega⟩
      have e2 := bitP (s := s) (j := j) ⟨by omega, by omega⟩ ⟨j1, by omega⟩
      refine ok_iload 33 rfl rfl rfl (ok_iload 34 rfl rfl rfl (ok_ishr 35 rfl rfl (ok_iconst 36 rfl rfl (by decide) (ok_iand 37 rfl rfl (ok_if_eq 38 81 rfl rfl rfl (fun h61 => ?_) (fun h61 => ?_))))))
      · refine ok_inc9 50 rfl rfl rfl (by first | omega | (simp [up_if]; omega) | (simp [up_if] at *; omega)) (ok_goto 51 48 rfl rfl rfl ?_)
        exact ih2 _ (j + 1) ⟨by omega, by omega, by omega, by omega, by rw [es, no j (hop.2.mp h61)]; omega⟩ (by omega)
      · obtain ⟨ob, oo⟩ := hop.1.mp h61
        obtain ⟨t1, t2, t3⟩ := term j j1 (by omega) ob oo
        refine ok_lload 39 rfl rfl rfl (ok_aload_n 40 rfl rfl rfl (ok_getR 41 rfl rfl fl_X0_15 rfl rfl (ok_iload 42 rfl rfl rfl (ok_iconst 43 rfl rfl (by decide) (ok_iload 44 rfl rfl rfl (ok_ishl 45 rfl rfl (ok_ior 46 rfl rfl ?_)))))))
        rw [e2]
        refine ok_lald 47 rfl rfl rfl (by omega) (ok_ladd 48 rfl rfl (by first | omega | (simp [up_if]; omega) | (simp [up_if] at *; omega)) (ok_lst7 49 rfl rfl rfl (ok_inc9 50 rfl rfl rfl (by first | omega | (simp [up_if]; omega) | (simp [up_if] at *; omega)) (ok_goto 51 48 rfl rfl rfl ?_))))
        exact ih2 _ (j + 1) ⟨by omega, by omega, by omega, by omega, by rw [es, t1]⟩ (by omega)
