section
/-! MIXING: powers of the joins, on both sides -/
def pwR (n : Int) (W : Int → Int → Int) : Nat → Int → Int → Prop
  | 0 => fun i j => 1 ≤ W i j
  | m + 1 => fun i j => ∃ k, 0 ≤ k ∧ k < n ∧ pwR n W m i k ∧ 1 ≤ W k j
def fuR (n : Int) (op : Int → Int → Prop) : Prop := ∀ i j, 0 ≤ i → i < n → 0 ≤ j → j < n → op i j
def mxG (n : Int) (W : Int → Int → Int) (z : Int) : Prop := (z = -1 ∧ ∀ m : Int, 1 ≤ m → m ≤ 64 → ¬ fuR n (pwR n W (m - 1).toNat)) ∨ ((1 ≤ z ∧ z ≤ 64) ∧ fuR n (pwR n W (z - 1).toNat) ∧ ∀ m : Int, 1 ≤ m → m < z → ¬ fuR n (pwR n W (m - 1).toNat))
theorem pwR_cg {n : Int} {W V : Int → Int → Int} (h : ag n W V) : ∀ (m : Nat) (i j : Int), 0 ≤ i → i < n → 0 ≤ j → j < n → (pwR n W m i j ↔ pwR n V m i j)
  | 0, i, j, a, b, c, d => by show 1 ≤ W i j ↔ 1 ≤ V i j; rw [h i j a b c d]
  | m + 1, i, j, a, b, c, d => by
    constructor
    · rintro ⟨k, x, y, z, w⟩; exact ⟨k, x, y, (pwR_cg h m i k a b x y).mp z, by rw [← h k j x y c d]; exact w⟩
    · rintro ⟨k, x, y, z, w⟩; exact ⟨k, x, y, (pwR_cg h m i k a b x y).mpr z, by rw [h k j x y c d]; exact w⟩
theorem fuR_cg {n : Int} {W V : Int → Int → Int} (h : ag n W V) (m : Nat) : fuR n (pwR n W m) ↔ fuR n (pwR n V m) :=
  ⟨fun q i j a b c d => (pwR_cg h m i j a b c d).mp (q i j a b c d), fun q i j a b c d => (pwR_cg h m i j a b c d).mpr (q i j a b c d)⟩
theorem mxG_un {n z z' : Int} {W V : Int → Int → Int} (h : ag n W V) (a : mxG n W z) (b : mxG n V z') : z = z' := by
  rcases a with ⟨a1, a2⟩ | ⟨a1, a2, a3⟩ <;> rcases b with ⟨b1, b2⟩ | ⟨b1, b2, b3⟩
  · omega
  · exact absurd ((fuR_cg h _).mpr b2) (a2 z' b1.1 b1.2)
  · exact absurd ((fuR_cg h _).mp a2) (b2 z a1.1 a1.2)
  · rcases (by omega : z < z' ∨ z = z' ∨ z' < z) with q | q | q
    · exact absurd ((fuR_cg h _).mp a2) (b3 z a1.1 q)
    · exact q
    · exact absurd ((fuR_cg h _).mpr b2) (a3 z' b1.1 q)
theorem lb_small {z : Int} (h : 0 ≤ z ∧ z < 256) (k : Nat) : lb z k = z.toNat.testBit k := by
  by_cases q : k < 64
  · show (BitVec.ofInt 64 z).getLsbD k = _
    rw [← BitVec.testBit_toNat, BitVec.toNat_ofInt]
    have : (z % ((2 ^ 64 : Nat) : Int)).toNat = z.toNat := by omega
    rw [this]
  · rw [lb_big (by omega), Nat.testBit_lt_two_pow (Nat.lt_of_lt_of_le (by omega : z.toNat < 2 ^ 8) (Nat.pow_le_pow_right (by decide) (by omega)))]
theorem jb_put {v z r x y : Int} (hz : 0 ≤ z ∧ z < 256) (hr : 0 ≤ r ∧ r < 8) (hx : 0 ≤ x ∧ x < 8) (hy : 0 ≤ y ∧ y < 8) : jb (lor v (lshl z (r * 8))) x y = (jb v x y || (decide (x = r) && bt z y)) := by
  unfold jb
  rw [lb_or]
  congr 1
  obtain ⟨m, hm⟩ : ∃ m : Nat, r * 8 = (m : Int) := ⟨(r * 8).toNat, by omega⟩
  rw [hm, lb_shl z (by omega) (by omega), lb_small hz]
  by_cases q : x = r
  · rw [decide_eq_true q, decide_eq_true (by omega), show (x * 8 + y).toNat - m = y.toNat by omega]
    rfl
  · rw [decide_eq_false q, Bool.false_and]
    by_cases w : m ≤ (x * 8 + y).toNat
    · rw [Nat.testBit_lt_two_pow (Nat.lt_of_lt_of_le (by omega : z.toNat < 2 ^ 8) (Nat.pow_le_pow_right (by decide) (by omega))), Bool.and_false]
    · rw [decide_eq_false w, Bool.false_and]
theorem t_Jo_product {σ : eS} {P J n : Int} {op op' : Int → Int → Prop} (hn : 0 ≤ n ∧ n ≤ 8) (hP : jOf P n op) (hJ : jOf J n op') : MtL shA M_Jo_product [vl P, vl J, vi n] σ (fun σ' z => σ' = σ ∧ jOf z n (fun i j => ∃ k, 0 ≤ k ∧ k < n ∧ op i k ∧ op' k j)) := by
  refine Mt.of okM_Jo_product (Nat.le_of_ble_eq_true rfl) (fun hk hg => ?_)
  refine ok_lconst (w := 0) 0 rfl rfl rfl (by decide) (ok_lst5 1 rfl rfl rfl (ok_iconst 2 rfl rfl (by decide) (ok_ist7 3 rfl rfl rfl ?_)))
  refine lpO2 (fun v i : Int => [some (vl P), none, some (vl J), none, some (vi n), some (vl v), none, some (vi i)]) (fun _ _ => σ) (fun v i => 0 ≤ i ∧ i ≤ n ∧ rl v ∧ ∀ x y : Int, 0 ≤ x → x < 8 → 0 ≤ y → y < 8 → (jb v x y = true ↔ (x < i ∧ y < n ∧ ∃ k, 0 ≤ k ∧ k < n ∧ op x k ∧ op' k y))) (fun _ i => (8 - i).toNat) ?_ 0 0 ⟨by omega, by omega, ⟨by omega, by omega⟩, fun x y a b d e => by rw [jb_0]; constructor; intro q; cases q; intro q; omega⟩
  rintro v i ⟨i1, i2, v1, v2⟩ ih
  refine ok_iload 4 rfl rfl rfl (ok_iload 5 rfl rfl rfl (ok_icmp_ge 6 43 rfl rfl rfl (fun h10 => ?_) (fun h10 => ?_)))
  · refine ok_lload 23 rfl rfl rfl (ok_lret 24 rfl rfl rfl ?_)
    exact ⟨_, rfl, rfl, v1, fun x y a b d e => by rw [v2 x y a b d e, show i = n by omega]⟩
  · have rj := rowJ_sp (J := P) (r := i) ⟨by omega, by omega⟩
    refine ok_lload 7 rfl rfl rfl (ok_lload_n 8 rfl rfl rfl (ok_lload_n 9 rfl rfl rfl (ok_iload 10 rfl rfl rfl (ok_callSI (M' := M_Jo_rowOf) (as := [_, _]) 11 rfl rfl ml_X1_17 (s_Jo_rowOf) ⟨Nat.le_of_ble_eq_true rfl, Nat.le_of_ble_eq_true rfl⟩ rfl (Nat.le_of_ble_eq_true rfl) (fun σ' z hz => ?_)))))
    rw [hz.1, hz.2]
    clear hz z σ'
    refine ok_iload 12 rfl rfl rfl (ok_callSI (M' := M_Jo_columnsOf) (as := [_, _, _]) 13 rfl rfl ml_X1_25 (t_Jo_columnsOf hn rj.1) ⟨Nat.le_of_ble_eq_true rfl, Nat.le_of_ble_eq_true rfl⟩ rfl (Nat.le_of_ble_eq_true rfl) (fun σ' z hz => ?_))
    obtain ⟨hs_, hz⟩ := hz
    rw [hs_]; clear hs_ σ'
    obtain ⟨z1, z2⟩ := cOf_op hn.2 hJ hz
    refine ok_i2l 14 rfl rfl (ok_iload 15 rfl rfl rfl (ok_bipush 16 rfl rfl (by decide) (by decide) (ok_imul 17 rfl rfl (by first | omega | (simp [up_if]; omega) | (simp [up_if] at *; omega)) (ok_lshl 18 rfl rfl (ok_lor 19 rfl rfl (ok_lst5 20 rfl rfl rfl (ok_inc7 21 rfl rfl rfl (by first | omega | (simp [up_if]; omega) | (simp [up_if] at *; omega)) (ok_goto 22 6 rfl rfl rfl ?_))))))))
    refine ih _ (i + 1) ⟨by omega, by omega, rl_lor _ _, fun x y a b d e => ?_⟩ (by omega)
    rw [jb_put z1 ⟨i1, by omega⟩ ⟨a, b⟩ ⟨d, e⟩, Bool.or_eq_true, Bool.and_eq_true, v2 x y a b d e, z2 y d e, decide_eq_true_eq]
    constructor
    · rintro (⟨q1, q2⟩ | ⟨q1, q2, k, k1, k2, k3, k4⟩)
      · exact ⟨by omega, q2⟩
      · rw [rj.2 k k1 (by omega), hP.2 i k i1 (by omega) k1 (by omega)] at k3
        exact ⟨by omega, q2, k, k1, k2, by rw [q1]; exact k3.2.2, k4⟩
    · rintro ⟨q1, q2, k, k1, k2, k3, k4⟩
      by_cases w : x = i
      · refine Or.inr ⟨w, q2, k, k1, k2, ?_, k4⟩
        rw [rj.2 k k1 (by omega), hP.2 i k i1 (by omega) k1 (by omega)]
        exact ⟨by omega, k2, by rw [← w]; exact k3⟩
      · exact Or.inl ⟨by omega, q2, k, k1, k2, k3, k4⟩
theorem full_eq {P F n : Int} {op op' : Int → Int → Prop} (hn : n ≤ 8) (hP : jOf P n op) (hF : jOf F n op') (hf : fuR n op') : P = F ↔ fuR n op := by
  constructor
  · intro e i j a b c d
    have x := (hF.2 i j a (by omega) c (by omega)).mpr ⟨b, d, hf i j a b c d⟩
    rw [← e] at x
    exact ((hP.2 i j a (by omega) c (by omega)).mp x).2.2
  · intro h
    refine jb_ext hP.1 hF.1 (fun x y a b c d => ?_)
    have e1 := hP.2 x y a b c d
    have e2 := hF.2 x y a b c d
    by_cases q : x < n ∧ y < n
    · rw [e1.mpr ⟨q.1, q.2, h x y a q.1 c q.2⟩, e2.mpr ⟨q.1, q.2, hf x y a q.1 c q.2⟩]
    · have f1 : jb P x y = false := by
        cases w : jb P x y with
        | false => rfl
        | true => have := e1.mp w; omega
      have f2 : jb F x y = false := by
        cases w : jb F x y with
        | false => rfl
        | true => have := e2.mp w; omega
      rw [f1, f2]
theorem t_Jo_leastFullPower {σ : eS} {J F n : Int} {W : Int → Int → Int} {op' : Int → Int → Prop} (hn : 0 ≤ n ∧ n ≤ 8) (hJ : jOf J n (fun i j => 1 ≤ W i j)) (hF : jOf F n op') (hf : fuR n op') : MtI shA M_Jo_leastFullPower [vl J, vl F, vi n] σ (fun σ' z => σ' = σ ∧ mxG n W z) := by
  refine Mt.of okM_Jo_leastFullPower (Nat.le_of_ble_eq_true rfl) (fun hk hg => ?_)
  refine ok_lload_n 0 rfl rfl rfl (ok_lst5 1 rfl rfl rfl (ok_iconst 2 rfl rfl (by decide) (ok_ist7 3 rfl rfl rfl ?_)))
  refine lpO2 (fun v m : Int => [some (vl J), none, some (vl F), none, some (vi n), some (vl v), none, some (vi m)]) (fun _ _ => σ) (fun v m => 1 ≤ m ∧ m ≤ 65 ∧ jOf v n (pwR n W (m - 1).toNat) ∧ ∀ q : Int, 1 ≤ q → q < m → ¬ fuR n (pwR n W (q - 1).toNat)) (fun _ m => (65 - m).toNat) ?_ J 1 ⟨by omega, by omega, hJ, fun q a b => by omega⟩
  rintro v m ⟨m1, m2, v1, v2⟩ ih
  have fe := full_eq hn.2 v1 hF hf
  refine ok_iload 4 rfl rfl rfl (ok_bipush 5 rfl rfl (by decide) (by decide) (ok_icmp_gt 6 39 rfl rfl rfl (fun h10 => ?_) (fun h10 => ?_)))
  · refine ok_iconst 20 rfl rfl (by decide) (ok_iret 21 rfl rfl rfl ?_)
    exact ⟨_, rfl, rfl, Or.inl ⟨rfl, fun q a b => v2 q a (by omega)⟩⟩
  · refine ok_lload 7 rfl rfl rfl (ok_lload_n 8 rfl rfl rfl (ok_lcmp_ne 9 10 23 rfl rfl rfl rfl rfl (fun h16 => ?_) (fun h16 => ?_)))
    · refine ok_lload 13 rfl rfl rfl (ok_lload_n 14 rfl rfl rfl (ok_iload 15 rfl rfl rfl (ok_callSL (M' := M_Jo_product) (as := [_, _, _]) 16 rfl rfl ml_X1_40 (t_Jo_product hn v1 hJ) ⟨Nat.le_of_ble_eq_true rfl, Nat.le_of_ble_eq_true rfl⟩ rfl (Nat.le_of_ble_eq_true rfl) (fun σ' z hz => ?_))))
      obtain ⟨hs_, hz⟩ := hz
      rw [hs_]; clear hs_ σ'
      refine ok_lst5 17 rfl rfl rfl (ok_inc7 18 rfl rfl rfl (by first | omega | (simp [up_if]; omega) | (simp [up_if] at *; omega)) (ok_goto 19 6 rfl rfl rfl ?_))
      refine ih _ (m + 1) ⟨by omega, by omega, ?_, ?_⟩ (by omega)
      · rw [show (m + 1 - 1).toNat = (m - 1).toNat + 1 by omega]; exact hz
      · intro q a b
        by_cases y : q = m
        · rw [y]; exact fun w => absurd (fe.mpr w) (by omega)
        · exact v2 q a (by omega)
    · refine ok_iload 11 rfl rfl rfl (ok_iret 12 rfl rfl rfl ?_)
      exact ⟨_, rfl, rfl, Or.inr ⟨⟨m1, by omega⟩, fe.mp (by omega), v2⟩⟩
theorem t_Ev_mixing {σ : eS} {s : Int} (h : IA σ) : MtI shA M_Ev_mixing [vr 0, vi s] σ (fun σ' z => σ' = σ ∧ ((¬ tabA σ s ∧ z = -1) ∨ (tabA σ s ∧ mxG (σ (s.toNat + 2) 1) (cT σ (s.toNat + 2)) z))) := by
  refine Mt.of okM_Ev_mixing (Nat.le_of_ble_eq_true rfl) (fun hk hg => ?_)
  refine ok_aload_n 0 rfl rfl rfl (ok_iload_n 1 rfl rfl rfl (ok_callVR (M' := M_Ev_filledSlot) (as := [_]) 2 rfl rfl ml_X11_137 (s_Ev_filledSlot) rfl rfl (Nat.le_of_ble_eq_true rfl) ⟨Nat.le_of_ble_eq_true rfl, Nat.le_of_ble_eq_true rfl⟩ rfl (Nat.le_of_ble_eq_true rfl) (fun σ' z hz => ?_)))
  obtain ⟨hs_, hz⟩ := hz
  rw [hs_]; clear hs_ σ'
  rcases hz with ⟨q, q0⟩ | ⟨q1, q2, q, q3⟩
  · subst q
    refine ok_ast2 3 rfl rfl rfl (ok_aload_n 4 rfl rfl rfl (ok_ifnonnullN 5 rfl rfl (ok_iconst 6 rfl rfl (by decide) (ok_goto 7 31 rfl rfl rfl (ok_iret 17 rfl rfl rfl ?_)))))
    exact ⟨_, rfl, rfl, Or.inl ⟨q0, rfl⟩⟩
  · subst q
    have ht := sl_tA ⟨q1, q2⟩
    have hT := (h.2.1 _ ht).1
    have m2 := hT.2.1
    refine ok_ast2 3 rfl rfl rfl (ok_aload_n 4 rfl rfl rfl (ok_ifnonnull 5 14 rfl rfl rfl (ok_aload_n 8 rfl rfl rfl (ok_iconst 9 rfl rfl (by decide) (ok_callVL (M' := M_Ta_joinedBy) (as := [_]) 10 rfl rfl ml_X11_119 (t_Ta_joinedBy ht hT) (sT ht) rfl (Nat.le_of_ble_eq_true rfl) ⟨Nat.le_of_ble_eq_true rfl, Nat.le_of_ble_eq_true rfl⟩ rfl (Nat.le_of_ble_eq_true rfl) (fun σ' z1 x1 => ?_))))))
    obtain ⟨hs_, x1⟩ := x1
    rw [hs_]; clear hs_ σ'
    refine ok_aload_n 11 rfl rfl rfl (ok_iconst 12 rfl rfl (by decide) (ok_callVL (M' := M_Ta_joinedBy) (as := [_]) 13 rfl rfl ml_X11_119 (t_Ta_joinedBy ht hT) (sT ht) rfl (Nat.le_of_ble_eq_true rfl) ⟨Nat.le_of_ble_eq_true rfl, Nat.le_of_ble_eq_true rfl⟩ rfl (Nat.le_of_ble_eq_true rfl) (fun σ' z2 x2 => ?_)))
    obtain ⟨hs_, x2⟩ := x2
    rw [hs_]; clear hs_ σ'
    refine ok_aload_n 14 rfl rfl rfl (ok_getI 15 rfl rfl fl_X11_103 (sT ht) rfl (Or.inl rfl) (ok_callSI (M' := M_Jo_leastFullPower) (as := [_, _, _]) 16 rfl rfl ml_X11_279 (t_Jo_leastFullPower ⟨hT.1, hT.2.1⟩ x1 x2 (fun i j a b c d => (cT_bd hT ⟨a, by omega⟩ ⟨c, by omega⟩).1)) ⟨Nat.le_of_ble_eq_true rfl, Nat.le_of_ble_eq_true rfl⟩ rfl (Nat.le_of_ble_eq_true rfl) (fun σ' z3 x3 => ?_)))
    obtain ⟨hs_, x3⟩ := x3
    rw [hs_]; clear hs_ σ'
    refine ok_iret 17 rfl rfl rfl ?_
    exact ⟨_, rfl, rfl, Or.inr ⟨⟨q1, q2, q3⟩, x3⟩⟩
/-- a field of booleans says a relation, up to a place -/
def fdB (ρ : eS) (c : Nat) (n m : Int) (op : Int → Int → Prop) : Prop := ∀ i j, 0 ≤ i → i < n → 0 ≤ j → j < n → n * i + j < m → (ρ c (n * i + j) = 0 ∨ ρ c (n * i + j) = 1) ∧ (ρ c (n * i + j) = 1 ↔ op i j)
theorem fdB_s {ρ : eS} {c : Nat} {n i j v : Int} {op : Int → Int → Prop} (hn : 1 ≤ n ∧ n ≤ 8) (hi : 0 ≤ i ∧ i < n) (hj : 0 ≤ j ∧ j < n) (h : fdB ρ c n (n * i + j) op) (hv : v = 0 ∨ v = 1) (hv2 : v = 1 ↔ op i j) : fdB (up ρ c (n * i + j) v) c n (n * i + (j + 1)) op := fun x y a b d e l => by
  by_cases q : n * x + y = n * i + j
  · obtain ⟨q1, q2⟩ := ix_inj hn ⟨d, e⟩ hj q
    rw [q1, q2, up_same]
    exact ⟨hv, hv2⟩
  · rw [up_nk _ _ _ _ q]
    exact h x y a b d e (by omega)
theorem fdB_r {ρ : eS} {c : Nat} {n i : Int} {op : Int → Int → Prop} (h : fdB ρ c n (n * i + n) op) : fdB ρ c n (n * (i + 1)) op := by
  rw [Int.mul_add, Int.mul_one]
  exact h
theorem fdB_all {ρ : eS} {c : Nat} {n : Int} {op : Int → Int → Prop} (hn : 1 ≤ n ∧ n ≤ 8) (h : fdB ρ c n (n * n) op) {i j : Int} (hi : 0 ≤ i ∧ i < n) (hj : 0 ≤ j ∧ j < n) : (ρ c (n * i + j) = 0 ∨ ρ c (n * i + j) = 1) ∧ (ρ c (n * i + j) = 1 ↔ op i j) :=
  h i j hi.1 hi.2 hj.1 hj.2 (ix8 (n := n) (i := i) (j := j) ⟨by omega, hn.2⟩ hi hj).2.2.1
theorem fdB_lin {ρ : eS} {c : Nat} {n : Int} {f : Int → Prop} {op : Int → Int → Prop} (hn : 1 ≤ n ∧ n ≤ 8) (h : ∀ q, 0 ≤ q → q < n * n → (ρ c q = 0 ∨ ρ c q = 1) ∧ (ρ c q = 1 ↔ f q)) (e : ∀ i j, 0 ≤ i → i < n → 0 ≤ j → j < n → (f (n * i + j) ↔ op i j)) : fdB ρ c n (n * n) op := fun i j a b d g l => by
  have x := ix8 (n := n) (i := i) (j := j) ⟨by omega, hn.2⟩ ⟨a, b⟩ ⟨d, g⟩
  have y := h (n * i + j) (by omega) l
  exact ⟨y.1, y.2.trans (e i j a b d g)⟩
theorem fu_lin {ρ : eS} {c : Nat} {n : Int} {op : Int → Int → Prop} (hn : 1 ≤ n ∧ n ≤ 8) (h : fdB ρ c n (n * n) op) : (∀ q, 0 ≤ q → q < n * n → ρ c q = 1) ↔ fuR n op := by
  constructor
  · intro q i j a b d e
    have x := ix8 (n := n) (i := i) (j := j) ⟨by omega, hn.2⟩ ⟨a, b⟩ ⟨d, e⟩
    exact (fdB_all hn h ⟨a, b⟩ ⟨d, e⟩).2.mp (q _ (by omega) (by omega))
  · intro w q a b
    have g1 := Int.mul_ediv_add_emod q n
    have g2 := Int.emod_nonneg q (by omega : n ≠ 0)
    have g3 := Int.emod_lt_of_pos q (by omega : 0 < n)
    have g4 : q / n < n := Int.ediv_lt_of_lt_mul (by omega) (by omega)
    have g5 : 0 ≤ q / n := Int.ediv_nonneg a (by omega)
    have x := (fdB_all hn h ⟨g5, g4⟩ ⟨g2, g3⟩).2.mpr (w _ _ g5 g4 g2 g3)
    rw [g1] at x
    exact x
theorem bl_01 {ρ : eS} {c : Nat} {n q : Int} {op : Int → Int → Prop} (hn : 1 ≤ n ∧ n ≤ 8) (h : fdB ρ c n (n * n) op) (a : 0 ≤ q) (b : q < n * n) : ρ c q = 0 ∨ ρ c q = 1 := by
  have g1 := Int.mul_ediv_add_emod q n
  have g2 := Int.emod_nonneg q (by omega : n ≠ 0)
  have g3 := Int.emod_lt_of_pos q (by omega : 0 < n)
  have g4 : q / n < n := Int.ediv_lt_of_lt_mul (by omega) (by omega)
  have g5 : 0 ≤ q / n := Int.ediv_nonneg a (by omega)
  have x := (fdB_all hn h ⟨g5, g4⟩ ⟨g2, g3⟩).1
  rw [g1] at x
  exact x
theorem t_Mo_mixing {σ : eS} {s : Int} (hB : iB1 σ) : MtI shB M_Mo_mixing [vr 0, vi s] σ (fun σ' z => fr rgX σ σ' ∧ ((¬ tabB σ s ∧ z = -1) ∨ (tabB σ s ∧ mxG (σ 1 s) (cB σ s) z))) := by
  refine Mt.of okM_Mo_mixing (Nat.le_of_ble_eq_true rfl) (fun hk hg => ?_)
  refine ok_aload_n 0 rfl rfl rfl (ok_iload_n 1 rfl rfl rfl (ok_callVI (M' := M_Mo_isTable) (as := [_]) 2 rfl rfl ml_X12_111 (s_Mo_isTable_r) rfl rfl (Nat.le_of_ble_eq_true rfl) ⟨Nat.le_of_ble_eq_true rfl, Nat.le_of_ble_eq_true rfl⟩ rfl (Nat.le_of_ble_eq_true rfl) (fun σ' z1 a1 => ?_)))
  obtain ⟨hs_, a1⟩ := a1
  rw [hs_]; clear hs_ σ'
  refine ok_if_ne 3 10 rfl rfl rfl (fun h5 => ?_) (fun h5 => ?_)
  · obtain ⟨u1, u2, u3⟩ := yes1 a1 h5
    have tn := hB.1 s u1 u2
    have ht : tabB σ s := ⟨u1, u2, u3⟩
    refine ok_aload_n 6 rfl rfl rfl (ok_getR 7 rfl rfl fl_X12_7 rfl rfl (ok_iload_n 8 rfl rfl rfl (ok_iald 9 rfl rfl rfl (by first | omega | (simp [up_if]; omega) | (simp [up_if] at *; omega)) (ok_ist2 10 rfl rfl rfl (ok_iconst 11 rfl rfl (by decide) (ok_ist3 12 rfl rfl rfl ?_))))))
    obtain ⟨n, en⟩ : ∃ n, n = σ 1 s := ⟨_, rfl⟩
    rw [← en]
    have n1 : 1 ≤ n ∧ n ≤ 8 := by omega
    obtain ⟨q1, q2⟩ := sq8 (n := n) ⟨by omega, by omega⟩
    have E : ∀ τ : eS, fr rgX σ τ → iB1 τ ∧ τ 1 s = n ∧ (∀ k, τ 3 k = σ 3 k) ∧ cB τ s = cB σ s := fun τ g => by
      have e1 : τ 1 s = σ 1 s := g 1 s (by simp [rgX])
      have e3 : ∀ k, τ 3 k = σ 3 k := fun k => g 3 k (by simp [rgX])
      exact ⟨iB1_frS hB g (fun c k q => by simp only [rgX]; omega), by rw [e1, en], e3, by funext i j; unfold cB; rw [e1, e3]⟩
    refine lpO2 (fun (k : Int) (_ : eS) => [some (vr 0), some (vi s), some (vi n), some (vi k), none, none, none, none, none]) (fun _ ρ => ρ) (fun k ρ => 0 ≤ k ∧ k ≤ n * n ∧ fr rgX σ ρ ∧ ∀ q, 0 ≤ q → q < k → (ρ 21 q = 0 ∨ ρ 21 q = 1) ∧ (ρ 21 q = 1 ↔ 0 < σ 3 (64 * s + q))) (fun k _ => (n * n - k).toNat) ?_ 0 _ ⟨by omega, by omega, fr.rf, fun q a b => by omega⟩
    rintro k ρ ⟨k1, k2, f, hl⟩ ih
    have e3 := (E ρ f).2.2.1 (64 * s + k)
    refine ok_iload_n 13 rfl rfl rfl (ok_iload_n 14 rfl rfl rfl (ok_iload_n 15 rfl rfl rfl (ok_imul 16 rfl rfl (by first | omega | (simp [up_if]; omega) | (simp [up_if] at *; omega)) (ok_icmp_ge 17 57 rfl rfl rfl (fun h23 => ?_) (fun h23 => ?_)))))
    · refine ok_iconst 36 rfl rfl (by decide) (ok_ist3 37 rfl rfl rfl ?_)
      clear ih k1
      have ek : k = n * n := by omega
      rw [ek] at hl
      have hP : fdB ρ 21 n (n * n) (pwR n (cB σ s) 0) := fdB_lin n1 hl (fun i j a b c d => by show 0 < σ 3 (64 * s + (n * i + j)) ↔ 1 ≤ cB σ s i j; unfold cB; rw [← en, ← Int.add_assoc]; omega)
      clear ek k2 hl e3
      refine lpO2 (fun (k : Int) (_ : eS) => [some (vr 0), some (vi s), some (vi n), some (vi k), none, none, none, none, none]) (fun _ ρ => ρ) (fun k ρ => 1 ≤ k ∧ k ≤ 65 ∧ fr rgX σ ρ ∧ fdB ρ 21 n (n * n) (pwR n (cB σ s) (k - 1).toNat) ∧ ∀ q : Int, 1 ≤ q → q < k → ¬ fuR n (pwR n (cB σ s) (q - 1).toNat)) (fun k _ => (65 - k).toNat) ?_ 1 ρ ⟨by omega, by omega, f, hP, fun q a b => by omega⟩
      clear f hP h23 k ρ
      rintro k ρ ⟨k1, k2, f, hP, hno⟩ ih
      have fl := fu_lin n1 hP
      refine ok_iload_n 38 rfl rfl rfl (ok_bipush 39 rfl rfl (by decide) (by decide) (ok_icmp_gt 40 252 rfl rfl rfl (fun h62 => ?_) (fun h62 => ?_)))
      · refine ok_iconst 139 rfl rfl (by decide) (ok_iret 140 rfl rfl rfl ?_)
        exact ⟨_, rfl, f, Or.inr ⟨ht, Or.inl ⟨rfl, fun q a b => hno q a (by omega)⟩⟩⟩
      · refine ok_iconst 41 rfl rfl (by decide) (ok_ist4 42 rfl rfl rfl (ok_iconst 43 rfl rfl (by decide) (ok_ist5 44 rfl rfl rfl ?_)))
        refine lpO2 (fun (a i : Int) => [some (vr 0), some (vi s), some (vi n), some (vi k), some (vi a), some (vi i), none, none, none]) (fun _ _ => ρ) (fun a i => 0 ≤ i ∧ i ≤ n * n ∧ (a = 0 ∨ a = 1) ∧ (a = 1 ↔ ∀ q, 0 ≤ q → q < i → ρ 21 q = 1)) (fun _ i => (n * n - i).toNat) ?_ 1 0 ⟨by omega, by omega, by omega, fun _ q a b => by omega, fun _ => rfl⟩
        rintro a i ⟨i1, i2, i3, i4⟩ ih2
        refine ok_iload 45 rfl rfl rfl (ok_iload_n 46 rfl rfl rfl (ok_iload_n 47 rfl rfl rfl (ok_imul 48 rfl rfl (by first | omega | (simp [up_if]; omega) | (simp [up_if] at *; omega)) (ok_icmp_ge 49 107 rfl rfl rfl (fun h76 => ?_) (fun h76 => ?_)))))
        · refine ok_iload 63 rfl rfl rfl (ok_if_eq 64 114 rfl rfl rfl (fun h109 => ?_) (fun h109 => ?_))
          · refine ok_iconst 67 rfl rfl (by decide) (ok_ist5 68 rfl rfl rfl ?_)
            have ei : i = n * n := by omega
            rw [ei] at i4
            have hn0 : ¬ fuR n (pwR n (cB σ s) (k - 1).toNat) := fun y => by have := i4.mpr (fl.mpr y); omega
            clear ih2 i1 i2 i3 i4 ei
            obtain ⟨op, eop⟩ : ∃ op, op = pwR n (cB σ s) ((k - 1).toNat + 1) := ⟨_, rfl⟩
            have r21 : fr (fun c _ => c = 22) ρ ρ := fr.rf
            obtain ⟨R, eR⟩ : ∃ R, R = ρ := ⟨_, rfl⟩
            rw [← eR] at hP
            refine lpO2 (fun (i : Int) (_ : eS) => [some (vr 0), some (vi s), some (vi n), some (vi k), some (vi a), some (vi i), none, none, none]) (fun _ ρ => ρ) (fun i ρ => 0 ≤ i ∧ i ≤ n ∧ fr rgX σ ρ ∧ fr (fun c _ => c = 22) R ρ ∧ fdB ρ 22 n (n * i) op) (fun i _ => (n - i).toNat) ?_ 0 ρ ⟨by omega, by omega, f, by rw [eR]; exact fr.rf, fun x y c d e g l => by have := ix8 (n := n) (i := x) (j := y) ⟨by omega, by omega⟩ ⟨c, d⟩ ⟨e, g⟩; omega⟩
            clear f eR fl r21 h76 i ρ
            rintro i ρ ⟨i1, i2, f, fR, hz⟩ ih2
            refine ok_iload 69 rfl rfl rfl (ok_iload_n 70 rfl rfl rfl (ok_icmp_ge 71 215 rfl rfl rfl (fun h120 => ?_) (fun h120 => ?_)))
            · refine ok_iconst 120 rfl rfl (by decide) (ok_ist5 121 rfl rfl rfl ?_)
              have hz' : fdB ρ 22 n (n * n) op := by rw [show i = n by omega] at hz; exact hz
              clear ih2 i1 i2 hz fR
              obtain ⟨T, eT⟩ : ∃ T, T = ρ := ⟨_, rfl⟩
              rw [← eT] at hz'
              refine lpO2 (fun (i : Int) (_ : eS) => [some (vr 0), some (vi s), some (vi n), some (vi k), some (vi a), some (vi i), none, none, none]) (fun _ ρ => ρ) (fun i ρ => 0 ≤ i ∧ i ≤ n * n ∧ fr rgX σ ρ ∧ (∀ q, ρ 22 q = T 22 q) ∧ ∀ q, 0 ≤ q → q < i → ρ 21 q = T 22 q) (fun i _ => (n * n - i).toNat) ?_ 0 ρ ⟨by omega, by omega, f, fun q => by rw [eT], fun q a b => by omega⟩
              clear f eT ρ h120 i
              rintro i ρ ⟨i1, i2, f, fT, hq⟩ ih2
              refine ok_iload 122 rfl rfl rfl (ok_iload_n 123 rfl rfl rfl (ok_iload_n 124 rfl rfl rfl (ok_imul 125 rfl rfl (by first | omega | (simp [up_if]; omega) | (simp [up_if] at *; omega)) (ok_icmp_ge 126 246 rfl rfl rfl (fun h223 => ?_) (fun h223 => ?_)))))
              · refine ok_inc3 137 rfl rfl rfl (by first | omega | (simp [up_if]; omega) | (simp [up_if] at *; omega)) (ok_goto 138 59 rfl rfl rfl ?_)
                refine ok_fg [some (vr 0), some (vi s), some (vi n), some (vi (k + 1)), none, none, none, none, none] ⟨rfl, rfl, rfl, rfl, trivial⟩ (ih (k + 1) _ ⟨by omega, by omega, f, ?_, ?_⟩ (by omega))
                · rw [show (k + 1 - 1).toNat = (k - 1).toNat + 1 by omega, ← eop]
                  intro x y c d e g l
                  have bx := ix8 (n := n) (i := x) (j := y) ⟨by omega, by omega⟩ ⟨c, d⟩ ⟨e, g⟩
                  rw [hq _ (by omega) (by omega)]
                  exact hz' x y c d e g l
                · intro q c d
                  by_cases y : q = k
                  · rw [y]; exact hn0
                  · exact hno q c (by omega)
              · refine ok_aload_n 127 rfl rfl rfl (ok_getR 128 rfl rfl fl_X12_75 rfl rfl (ok_iload 129 rfl rfl rfl (ok_aload_n 130 rfl rfl rfl (ok_getR 131 rfl rfl fl_X12_79 rfl rfl (ok_iload 132 rfl rfl rfl (ok_zald 133 rfl rfl rfl (by first | omega | (simp [up_if]; omega) | (simp [up_if] at *; omega)) (ok_zast 134 rfl rfl rfl (by omega) (by rw [fT]; exact bl_01 n1 hz' i1 (by omega)) (ok_inc5 135 rfl rfl rfl (by first | omega | (simp [up_if]; omega) | (simp [up_if] at *; omega)) (ok_goto 136 218 rfl rfl rfl ?_)))))))))
                refine ih2 (i + 1) _ ⟨by omega, by omega, fr_up f (by simp [rgX]), fun q => by rw [up_ne _ _ _ _ (by decide)]; exact fT q, lt_ext (fun q a b => by rw [up_nk _ _ _ _ (by omega)]; exact hq q a b) ?_⟩ (by omega)
                rw [up_same, fT]
            · refine ok_iconst 72 rfl rfl (by decide) (ok_ist6 73 rfl rfl rfl ?_)
              refine lpO2 (fun (j : Int) (_ : eS) => [some (vr 0), some (vi s), some (vi n), some (vi k), some (vi a), some (vi i), some (vi j), none, none]) (fun _ ρ => ρ) (fun j ρ => 0 ≤ j ∧ j ≤ n ∧ fr rgX σ ρ ∧ fr (fun c _ => c = 22) R ρ ∧ fdB ρ 22 n (n * i + j) op) (fun j _ => (n - j).toNat) ?_ 0 ρ ⟨by omega, by omega, f, fR, by rw [Int.add_zero]; exact hz⟩
              clear f fR hz ρ
              rintro j ρ ⟨j1, j2, f, fR, hz⟩ ih3
              refine ok_iload 74 rfl rfl rfl (ok_iload_n 75 rfl rfl rfl (ok_icmp_ge 76 209 rfl rfl rfl (fun h129 => ?_) (fun h129 => ?_)))
              · refine ok_inc5 118 rfl rfl rfl (by first | omega | (simp [up_if]; omega) | (simp [up_if] at *; omega)) (ok_goto 119 117 rfl rfl rfl ?_)
                exact ok_fg [some (vr 0), some (vi s), some (vi n), some (vi k), some (vi a), some (vi (i + 1)), none, none, none] ⟨rfl, rfl, rfl, rfl, rfl, rfl, trivial⟩ (ih2 (i + 1) _ ⟨by omega, by omega, f, fR, fdB_r (by rw [show j = n by omega] at hz; exact hz)⟩ (by omega))
              · refine ok_iconst 77 rfl rfl (by decide) (ok_ist7 78 rfl rfl rfl (ok_iconst 79 rfl rfl (by decide) (ok_ist8 80 rfl rfl rfl ?_)))
                obtain ⟨eb, e1, e3, ec⟩ := E ρ f
                refine lpO2 (fun (v m : Int) => [some (vr 0), some (vi s), some (vi n), some (vi k), some (vi a), some (vi i), some (vi j), some (vi v), some (vi m)]) (fun _ _ => ρ) (fun v m => 0 ≤ m ∧ m ≤ n ∧ (v = 0 ∨ v = 1) ∧ (v = 1 ↔ ∃ q, 0 ≤ q ∧ q < m ∧ pwR n (cB σ s) (k - 1).toNat i q ∧ 1 ≤ cB σ s q j)) (fun _ m => (n - m).toNat) ?_ 0 0 ⟨by omega, by omega, by omega, fun y => absurd y (by decide), fun ⟨q, a, b, _⟩ => by omega⟩
                rintro v m ⟨m1, m2, m3, m4⟩ ih4
                have bi := ix8 (n := n) (i := i) (j := j) ⟨by omega, by omega⟩ ⟨by omega, by omega⟩ ⟨by omega, by omega⟩
                have old : (∃ q, 0 ≤ q ∧ q < m ∧ pwR n (cB σ s) (k - 1).toNat i q ∧ 1 ≤ cB σ s q j) → (∃ q, 0 ≤ q ∧ q < m + 1 ∧ pwR n (cB σ s) (k - 1).toNat i q ∧ 1 ≤ cB σ s q j) := fun ⟨q, a, b, c⟩ => ⟨q, a, by omega, c⟩
                refine ok_iload 81 rfl rfl rfl (ok_iload_n 82 rfl rfl rfl (ok_icmp_ge 83 189 rfl rfl rfl (fun h141 => ?_) (fun h141 => ?_)))
                · refine ok_aload_n 107 rfl rfl rfl (ok_getR 108 rfl rfl fl_X12_79 rfl rfl (ok_iload_n 109 rfl rfl rfl (ok_iload 110 rfl rfl rfl (ok_imul 111 rfl rfl (by first | omega | (simp [up_if]; omega) | (simp [up_if] at *; omega)) (ok_iload 112 rfl rfl rfl (ok_iadd 113 rfl rfl (by first | omega | (simp [up_if]; omega) | (simp [up_if] at *; omega)) (ok_iload 114 rfl rfl rfl (ok_zast 115 rfl rfl rfl (by first | omega | (simp [up_if]; omega) | (simp [up_if] at *; omega)) (by first | omega | (simp [up_if]; omega) | (simp [up_if] at *; omega)) (ok_inc6 116 rfl rfl rfl (by first | omega | (simp [up_if]; omega) | (simp [up_if] at *; omega)) (ok_goto 117 126 rfl rfl rfl ?_))))))))))
                  have em : m = n := by omega
                  rw [em] at m4
                  refine ok_fg [some (vr 0), some (vi s), some (vi n), some (vi k), some (vi a), some (vi i), some (vi (j + 1)), none, none] ⟨rfl, rfl, rfl, rfl, rfl, rfl, rfl, trivial⟩ (ih3 (j + 1) _ ⟨by omega, by omega, fr_up f (by simp [rgX]), fr_up fR rfl, fdB_s n1 ⟨by omega, by omega⟩ ⟨by omega, by omega⟩ hz m3 ?_⟩ (by omega))
                  rw [eop]
                  exact m4
                · have bm := ix8 (n := n) (i := i) (j := m) ⟨by omega, by omega⟩ ⟨by omega, by omega⟩ ⟨by omega, by omega⟩
                  have rm := fdB_all n1 hP (i := i) (j := m) ⟨by omega, by omega⟩ ⟨m1, by omega⟩
                  rw [← fR 21 (n * i + m) (by omega)] at rm
                  refine ok_iload 84 rfl rfl rfl (ok_if_ne 85 176 rfl rfl rfl (fun h146 => ?_) (fun h146 => ?_))
                  · refine ok_iconst 101 rfl rfl (by decide) (ok_goto 102 181 rfl rfl rfl (ok_ist7 104 rfl rfl rfl (ok_inc8 105 rfl rfl rfl (by first | omega | (simp [up_if]; omega) | (simp [up_if] at *; omega)) (ok_goto 106 138 rfl rfl rfl ?_))))
                    exact ih4 _ (m + 1) ⟨by omega, by omega, by omega, fun _ => old (m4.mp (by omega)), fun _ => rfl⟩ (by omega)
                  · refine ok_aload_n 86 rfl rfl rfl (ok_getR 87 rfl rfl fl_X12_75 rfl rfl (ok_iload_n 88 rfl rfl rfl (ok_iload 89 rfl rfl rfl (ok_imul 90 rfl rfl (by first | omega | (simp [up_if]; omega) | (simp [up_if] at *; omega)) (ok_iload 91 rfl rfl rfl (ok_iadd 92 rfl rfl (by first | omega | (simp [up_if]; omega) | (simp [up_if] at *; omega)) (ok_zald 93 rfl rfl rfl (by first | omega | (simp [up_if]; omega) | (simp [up_if] at *; omega)) (ok_if_eq 94 180 rfl rfl rfl (fun h161 => ?_) (fun h161 => ?_)))))))))
                    · refine ok_iconst 103 rfl rfl (by decide) (ok_ist7 104 rfl rfl rfl (ok_inc8 105 rfl rfl rfl (by first | omega | (simp [up_if]; omega) | (simp [up_if] at *; omega)) (ok_goto 106 138 rfl rfl rfl ?_)))
                      refine ih4 _ (m + 1) ⟨by omega, by omega, by omega, fun y => absurd y (by decide), fun ⟨q, a, b, c, d⟩ => ?_⟩ (by omega)
                      exfalso
                      rcases (by omega : q < m ∨ q = m) with w | w
                      · have := m4.mpr ⟨q, a, w, c, d⟩; omega
                      · rw [w] at c; have := rm.2.mpr c; omega
                    · refine ok_aload_n 95 rfl rfl rfl (ok_iload_n 96 rfl rfl rfl (ok_iload 97 rfl rfl rfl (ok_iload 98 rfl rfl rfl (ok_callVI (M' := M_Mo_at) (as := [_, _, _]) 99 rfl rfl ml_X12_107 (s_Mo_at eb ⟨u1, u2⟩ ⟨by omega, by omega⟩ ⟨by omega, by omega⟩) rfl rfl (Nat.le_of_ble_eq_true rfl) ⟨Nat.le_of_ble_eq_true rfl, Nat.le_of_ble_eq_true rfl⟩ rfl (Nat.le_of_ble_eq_true rfl) (fun σ' z hz => ?_)))))
                      rw [hz.1, hz.2, ec]; clear hz z σ'
                      refine ok_if_le 100 180 rfl rfl rfl (fun h173 => ?_) (fun h173 => ?_)
                      · refine ok_iconst 103 rfl rfl (by decide) (ok_ist7 104 rfl rfl rfl (ok_inc8 105 rfl rfl rfl (by first | omega | (simp [up_if]; omega) | (simp [up_if] at *; omega)) (ok_goto 106 138 rfl rfl rfl ?_)))
                        refine ih4 _ (m + 1) ⟨by omega, by omega, by omega, fun y => absurd y (by decide), fun ⟨q, a, b, c, d⟩ => ?_⟩ (by omega)
                        exfalso
                        rcases (by omega : q < m ∨ q = m) with w | w
                        · have := m4.mpr ⟨q, a, w, c, d⟩; omega
                        · rw [w] at d; omega
                      · refine ok_iconst 101 rfl rfl (by decide) (ok_goto 102 181 rfl rfl rfl (ok_ist7 104 rfl rfl rfl (ok_inc8 105 rfl rfl rfl (by first | omega | (simp [up_if]; omega) | (simp [up_if] at *; omega)) (ok_goto 106 138 rfl rfl rfl ?_))))
                        exact ih4 _ (m + 1) ⟨by omega, by omega, by omega, fun _ => ⟨m, m1, by omega, rm.2.mp (by omega), by omega⟩, fun _ => rfl⟩ (by omega)
          · refine ok_iload_n 65 rfl rfl rfl (ok_iret 66 rfl rfl rfl ?_)
            have ei : i = n * n := by omega
            rw [ei] at i4
            exact ⟨_, rfl, f, Or.inr ⟨ht, Or.inr ⟨⟨k1, by omega⟩, fl.mp (i4.mp (by omega)), hno⟩⟩⟩
        · refine ok_iload 50 rfl rfl rfl (ok_if_eq 51 98 rfl rfl rfl (fun h81 => ?_) (fun h81 => ?_))
          · refine ok_iconst 59 rfl rfl (by decide) (ok_ist4 60 rfl rfl rfl (ok_inc5 61 rfl rfl rfl (by first | omega | (simp [up_if]; omega) | (simp [up_if] at *; omega)) (ok_goto 62 71 rfl rfl rfl ?_)))
            refine ih2 _ (i + 1) ⟨by omega, by omega, by omega, ?_⟩ (by omega)
            first
              | (refine ⟨fun _ => lt_ext (i4.mp (by omega)) ?_, fun _ => rfl⟩
                 have := bl_01 n1 hP i1 (by omega)
                 omega)
              | (refine ⟨fun y => absurd y (by decide), fun y => ?_⟩
                 exfalso
                 have y1 := y i i1 (by omega)
                 have y2 := i4.mpr (fun q c d => y q c (by omega))
                 omega)
          · refine ok_aload_n 52 rfl rfl rfl (ok_getR 53 rfl rfl fl_X12_75 rfl rfl (ok_iload 54 rfl rfl rfl (ok_zald 55 rfl rfl rfl (by first | omega | (simp [up_if]; omega) | (simp [up_if] at *; omega)) (ok_if_eq 56 98 rfl rfl rfl (fun h91 => ?_) (fun h91 => ?_)))))
            · refine ok_iconst 59 rfl rfl (by decide) (ok_ist4 60 rfl rfl rfl (ok_inc5 61 rfl rfl rfl (by first | omega | (simp [up_if]; omega) | (simp [up_if] at *; omega)) (ok_goto 62 71 rfl rfl rfl ?_)))
              refine ih2 _ (i + 1) ⟨by omega, by omega, by omega, ?_⟩ (by omega)
              first
                | (refine ⟨fun _ => lt_ext (i4.mp (by omega)) ?_, fun _ => rfl⟩
                   have := bl_01 n1 hP i1 (by omega)
                   omega)
                | (refine ⟨fun y => absurd y (by decide), fun y => ?_⟩
                   exfalso
                   have y1 := y i i1 (by omega)
                   have y2 := i4.mpr (fun q c d => y q c (by omega))
                   omega)
            · refine ok_iconst 57 rfl rfl (by decide) (ok_goto 58 99 rfl rfl rfl (ok_ist4 60 rfl rfl rfl (ok_inc5 61 rfl rfl rfl (by first | omega | (simp [up_if]; omega) | (simp [up_if] at *; omega)) (ok_goto 62 71 rfl rfl rfl ?_))))
              refine ih2 _ (i + 1) ⟨by omega, by omega, by omega, ?_⟩ (by omega)
              first
                | (refine ⟨fun _ => lt_ext (i4.mp (by omega)) ?_, fun _ => rfl⟩
                   have := bl_01 n1 hP i1 (by omega)
                   omega)
                | (refine ⟨fun y => absurd y (by decide), fun y => ?_⟩
                   exfalso
                   have y1 := y i i1 (by omega)
                   have y2 := i4.mpr (fun q c d => y q c (by omega))
                   omega)
    · refine ok_aload_n 18 rfl rfl rfl (ok_getR 19 rfl rfl fl_X12_75 rfl rfl (ok_iload_n 20 rfl rfl rfl (ok_aload_n 21 rfl rfl rfl (ok_getR 22 rfl rfl fl_X12_16 rfl rfl (ok_bipush 23 rfl rfl (by decide) (by decide) (ok_iload_n 24 rfl rfl rfl (ok_imul 25 rfl rfl (by first | omega | (simp [up_if]; omega) | (simp [up_if] at *; omega)) (ok_iload_n 26 rfl rfl rfl (ok_iadd 27 rfl rfl (by first | omega | (simp [up_if]; omega) | (simp [up_if] at *; omega)) (ok_iald 28 rfl rfl rfl (by first | omega | (simp [up_if]; omega) | (simp [up_if] at *; omega)) (ok_if_le 29 49 rfl rfl rfl (fun h42 => ?_) (fun h42 => ?_))))))))))))
      · refine ok_iconst 32 rfl rfl (by decide) (ok_zast 33 rfl rfl rfl (by first | omega | (simp [up_if]; omega) | (simp [up_if] at *; omega)) (by first | omega | (simp [up_if]; omega) | (simp [up_if] at *; omega)) (ok_inc3 34 rfl rfl rfl (by first | omega | (simp [up_if]; omega) | (simp [up_if] at *; omega)) (ok_goto 35 19 rfl rfl rfl ?_)))
        refine ih (k + 1) _ ⟨by omega, by omega, fr_up f (by simp [rgX]), lt_ext (fun q a b => by rw [up_nk _ _ _ _ (by omega)]; exact hl q a b) ?_⟩ (by omega)
        rw [up_same]
        omega
      · refine ok_iconst 30 rfl rfl (by decide) (ok_goto 31 50 rfl rfl rfl (ok_zast 33 rfl rfl rfl (by first | omega | (simp [up_if]; omega) | (simp [up_if] at *; omega)) (by first | omega | (simp [up_if]; omega) | (simp [up_if] at *; omega)) (ok_inc3 34 rfl rfl rfl (by first | omega | (simp [up_if]; omega) | (simp [up_if] at *; omega)) (ok_goto 35 19 rfl rfl rfl ?_))))
        refine ih (k + 1) _ ⟨by omega, by omega, fr_up f (by simp [rgX]), lt_ext (fun q a b => by rw [up_nk _ _ _ _ (by omega)]; exact hl q a b) ?_⟩ (by omega)
        rw [up_same]
        omega
  · refine ok_iconst 4 rfl rfl (by decide) (ok_iret 5 rfl rfl rfl ?_)
    exact ⟨_, rfl, fr.rf, Or.inl ⟨no1 a1 h5, rfl⟩⟩
end
section
/-! KIN: what can be reached, by rounds and by Warshall's way -/
def RS (n : Int) (W : Int → Int → Int) (a : Int) : Nat → Int → Prop
  | 0 => fun c => c = a
  | m + 1 => fun c => RS n W a m c ∨ (c < n ∧ ∃ r, 0 ≤ r ∧ r < n ∧ RS n W a m r ∧ 1 ≤ W r c)
def RT (n : Int) (W : Int → Int → Int) (a c : Int) : Prop := ∃ m, RS n W a m c
section K12
variable {n a b c : Int} {W V : Int → Int → Int}
theorem RS_le {m : Nat} : ∀ {k : Nat}, RS n W a m c → RS n W a (m + k) c
  | 0, h => h
  | _ + 1, h => Or.inl (RS_le h)
theorem stab {m : Nat} (h : ∀ c, 0 ≤ c → c < n → RS n W a (m + 1) c → RS n W a m c) (ha : 0 ≤ a ∧ a < n) : ∀ (k : Nat) (c : Int), 0 ≤ c → RS n W a (m + k) c → RS n W a m c
  | 0, _, _, q => q
  | k + 1, c, hc, q => by
    rcases q with q | ⟨q1, r, q2, q3, q4, q5⟩
    · exact stab h ha k c hc q
    · exact h c hc q1 (Or.inr ⟨q1, r, q2, q3, stab h ha k r q2 q4, q5⟩)
noncomputable def cn (n : Int) (W : Int → Int → Int) (a : Int) (m : Nat) : Int := sm (fun c => @ite Int (RS n W a m c) (Classical.propDecidable _) 1 0) n.toNat
theorem cn_bd (hn : 0 ≤ n) (m : Nat) : cn n W a m ≤ n := by
  have := sm_bd (f := fun c => @ite Int (RS n W a m c) (Classical.propDecidable _) 1 0) (B := 1) (by decide) (n := n.toNat) (fun k _ _ => by (try dsimp only); split <;> omega)
  unfold cn
  omega
theorem cn_s {m : Nat} (h : ¬ ∀ c, 0 ≤ c → c < n → RS n W a (m + 1) c → RS n W a m c) : cn n W a m + 1 ≤ cn n W a (m + 1) := by
  obtain ⟨c, hc⟩ := Classical.not_forall.mp h
  obtain ⟨c1, hc⟩ := Classical.not_imp.mp hc
  obtain ⟨c2, hc⟩ := Classical.not_imp.mp hc
  obtain ⟨c3, c4⟩ := Classical.not_imp.mp hc
  unfold cn
  refine sm_less (x := c) (fun k p q => ?_) c1 (by omega) ?_
  · by_cases w : RS n W a m k
    · rw [if_pos w, if_pos (show RS n W a (m + 1) k from Or.inl w)]; exact Int.le_refl _
    · rw [if_neg w]; split <;> omega
  · rw [if_neg c4, if_pos c3]; decide
theorem cn_0 (ha : 0 ≤ a ∧ a < n) : 1 ≤ cn n W a 0 := by
  have := sm_le (f := fun c => @ite Int (RS n W a 0 c) (Classical.propDecidable _) 1 0) (n := n.toNat) (fun k _ _ => by (try dsimp only); split <;> omega) a ha.1 (by omega)
  try dsimp only at this
  rw [if_pos (show RS n W a 0 a from rfl)] at this
  unfold cn
  exact this
theorem some_st (ha : 0 ≤ a ∧ a < n) : ∀ m : Nat, (∃ k, k < m ∧ ∀ c, 0 ≤ c → c < n → RS n W a (k + 1) c → RS n W a k c) ∨ (m : Int) + 1 ≤ cn n W a m
  | 0 => Or.inr (by have := cn_0 (n := n) (W := W) ha; omega)
  | m + 1 => by
    rcases some_st ha m with ⟨k, h1, h2⟩ | h
    · exact Or.inl ⟨k, by omega, h2⟩
    · by_cases q : ∀ c, 0 ≤ c → c < n → RS n W a (m + 1) c → RS n W a m c
      · exact Or.inl ⟨m, by omega, q⟩
      · have := cn_s q
        exact Or.inr (by omega)
/-- n rounds are enough -/
theorem RS_n (ha : 0 ≤ a ∧ a < n) (hc : 0 ≤ c) : RS n W a n.toNat c ↔ RT n W a c := by
  refine ⟨fun h => ⟨_, h⟩, fun ⟨m, h⟩ => ?_⟩
  rcases some_st (W := W) ha n.toNat with ⟨k, h1, h2⟩ | q
  · have x := RS_le (k := k) h
    rw [Nat.add_comm m k] at x
    have y := stab h2 ha m c hc x
    have z := RS_le (k := n.toNat - k) y
    rwa [show k + (n.toNat - k) = n.toNat by omega] at z
  · have := cn_bd (n := n) (W := W) (a := a) (by omega) n.toNat
    omega
theorem RT_tr (h : RT n W a b) : ∀ (m : Nat) (c : Int), RS n W b m c → RT n W a c
  | 0, c, q => by
    have q : c = b := q
    rw [q]; exact h
  | m + 1, c, q => by
    rcases q with q | ⟨q1, r, q2, q3, q4, q5⟩
    · exact RT_tr h m c q
    · obtain ⟨k, hk⟩ := RT_tr h m r q4
      exact ⟨k + 1, Or.inr ⟨q1, r, q2, q3, hk, q5⟩⟩
theorem RS_cg (e : ag n W V) (ha : 0 ≤ a ∧ a < n) : ∀ (m : Nat) (c : Int), 0 ≤ c → RS n W a m c → RS n V a m c
  | 0, _, _, q => q
  | m + 1, c, hc, q => by
    rcases q with q | ⟨q1, r, q2, q3, q4, q5⟩
    · exact Or.inl (RS_cg e ha m c hc q)
    · exact Or.inr ⟨q1, r, q2, q3, RS_cg e ha m r q2 q4, by rw [← e r c q2 q3 hc q1]; exact q5⟩
theorem RT_cg (e : ag n W V) (ha : 0 ≤ a ∧ a < n) (hc : 0 ≤ c) : RT n W a c ↔ RT n V a c := ⟨fun ⟨m, h⟩ => ⟨m, RS_cg e ha m c hc h⟩, fun ⟨m, h⟩ => ⟨m, RS_cg e.sy ha m c hc h⟩⟩
end K12
/-- by way of the first k alone -/
def WP (W : Int → Int → Int) : Nat → Int → Int → Prop
  | 0 => fun i j => i = j ∨ 1 ≤ W i j
  | k + 1 => fun i j => WP W k i j ∨ (WP W k i (k : Int) ∧ WP W k (k : Int) j)
section K12b
variable {n : Int} {W : Int → Int → Int}
theorem WP_le {k : Nat} {i j : Int} : ∀ {d : Nat}, WP W k i j → WP W (k + d) i j
  | 0, h => h
  | _ + 1, h => Or.inl (WP_le h)
theorem WP_k1 {k : Nat} {i : Int} : WP W (k + 1) i (k : Int) ↔ WP W k i (k : Int) := ⟨fun h => by
  rcases h with h | h
  · exact h
  · exact h.1, Or.inl⟩
theorem WP_k2 {k : Nat} {j : Int} : WP W (k + 1) (k : Int) j ↔ WP W k (k : Int) j := ⟨fun h => by
  rcases h with h | h
  · exact h
  · exact h.2, Or.inl⟩
theorem WP_tr {k : Nat} : ∀ (d : Nat) (i j : Int), WP W (k + 1 + d) i (k : Int) → WP W (k + 1 + d) (k : Int) j → WP W (k + 1 + d) i j
  | 0, i, j, h, g => Or.inr ⟨WP_k1.mp h, WP_k2.mp g⟩
  | d + 1, i, j, h, g => by
    rcases h with h | ⟨h1, h2⟩ <;> rcases g with g | ⟨g1, g2⟩
    · exact Or.inl (WP_tr d i j h g)
    · exact Or.inr ⟨WP_tr d i _ h g1, g2⟩
    · exact Or.inr ⟨h1, WP_tr d _ j h2 g⟩
    · exact Or.inr ⟨h1, g2⟩
theorem WP_RT : ∀ (k : Nat) (i j : Int), (k : Int) ≤ n → 0 ≤ i → i < n → 0 ≤ j → j < n → WP W k i j → RT n W i j
  | 0, i, j, _, i1, i2, j1, j2, h => by
    rcases h with h | h
    · exact ⟨0, h.symm⟩
    · exact ⟨1, Or.inr ⟨j2, i, i1, i2, rfl, h⟩⟩
  | k + 1, i, j, hk, i1, i2, j1, j2, h => by
    rcases h with h | ⟨h1, h2⟩
    · exact WP_RT k i j (by omega) i1 i2 j1 j2 h
    · obtain ⟨m, hm⟩ := WP_RT k (k : Int) j (by omega) (by omega) (by omega) j1 j2 h2
      exact RT_tr (WP_RT k i (k : Int) (by omega) i1 i2 (by omega) (by omega) h1) m j hm
theorem RS_WP {i : Int} (hi : 0 ≤ i ∧ i < n) : ∀ (m : Nat) (j : Int), 0 ≤ j → RS n W i m j → WP W n.toNat i j
  | 0, j, _, h => by
    have x : WP W 0 i j := Or.inl (Eq.symm h)
    have y := WP_le (d := n.toNat) x
    rwa [Nat.zero_add] at y
  | m + 1, j, hj, h => by
    rcases h with h | ⟨h1, r, h2, h3, h4, h5⟩
    · exact RS_WP hi m j hj h
    · have x := RS_WP hi m r h2 h4
      have y : WP W 0 r j := Or.inr h5
      have y := WP_le (d := n.toNat) y
      rw [Nat.zero_add] at y
      have e : n.toNat = r.toNat + 1 + (n.toNat - r.toNat - 1) := by omega
      have er : ((r.toNat : Nat) : Int) = r := Int.toNat_of_nonneg h2
      rw [e] at x y ⊢
      exact WP_tr _ i j (by rw [er]; exact x) (by rw [er]; exact y)
theorem WP_iff {i j : Int} (hi : 0 ≤ i ∧ i < n) (hj : 0 ≤ j ∧ j < n) : WP W n.toNat i j ↔ RT n W i j := ⟨fun h => WP_RT n.toNat i j (by omega) hi.1 hi.2 hj.1 hj.2 h, fun ⟨m, h⟩ => RS_WP hi m j hj.1 h⟩
end K12b
def kiS (n : Int) (W : Int → Int → Int) (r z : Int) : Prop := (0 ≤ z ∧ z < 256) ∧ ∀ c : Int, 0 ≤ c → c < 8 → (bt z c = true ↔ (c < n ∧ RT n W r c ∧ RT n W c r))
theorem kiS_un {n r z z' : Int} {W V : Int → Int → Int} (hn : n ≤ 8) (e : ag n W V) (hr : 0 ≤ r ∧ r < n) (h : kiS n W r z) (h' : kiS n V r z') : z = z' := bt_ext h.1 h'.1 (fun c a b => by
  have x : bt z c = true ↔ bt z' c = true := by
    rw [h.2 c a b, h'.2 c a b]
    constructor
    · rintro ⟨p, q, w⟩; exact ⟨p, (RT_cg e hr a).mp q, (RT_cg e ⟨a, p⟩ hr.1).mp w⟩
    · rintro ⟨p, q, w⟩; exact ⟨p, (RT_cg e hr a).mpr q, (RT_cg e ⟨a, p⟩ hr.1).mpr w⟩
  cases q : bt z c <;> cases q' : bt z' c <;> simp_all)
theorem ior0_f : ∀ j : Fin 8, ior 0 (ishl 1 (j.val : Int)) = ishl 1 (j.val : Int) := by decide +kernel
theorem ior0 {j : Int} (h : 0 ≤ j ∧ j < 8) : ior 0 (ishl 1 j) = ishl 1 j := by
  have := ior0_f ⟨j.toNat, by omega⟩
  rwa [show (((⟨j.toNat, by omega⟩ : Fin 8).val : Nat) : Int) = j by show ((j.toNat : Nat) : Int) = j; omega] at this
theorem ior_z_f : ∀ s : Fin 256, ∀ j : Fin 8, ior (s.val : Int) (ishl 0 (j.val : Int)) = (s.val : Int) := by decide +kernel
theorem ior_z {s j : Int} (h1 : 0 ≤ s ∧ s < 256) (h2 : 0 ≤ j ∧ j < 8) : ior s (ishl 0 j) = s := fin2 (P := fun s j => ior s (ishl 0 j) = s) ior_z_f h1.1 h1.2 h2.1 h2.2
theorem t_Jo_reachedFrom {σ : eS} {J r n : Int} {W : Int → Int → Int} (hn : 0 ≤ n ∧ n ≤ 8) (hr : 0 ≤ r ∧ r < n) (hJ : jOf J n (fun i j => 1 ≤ W i j)) : MtI shA M_Jo_reachedFrom [vl J, vi r, vi n] σ (fun σ' z => σ' = σ ∧ (0 ≤ z ∧ z < 256) ∧ ∀ c : Int, 0 ≤ c → c < 8 → (bt z c = true ↔ RT n W r c)) := by
  refine Mt.of okM_Jo_reachedFrom (Nat.le_of_ble_eq_true rfl) (fun hk hg => ?_)
  have o0 := or8 (s := 0) (j := r) ⟨by omega, by omega⟩ ⟨hr.1, by omega⟩
  have p0 := bitP (s := 0) (j := r) ⟨by omega, by omega⟩ ⟨hr.1, by omega⟩
  have i0 : ior 0 (ishl 1 r) = ishl 1 r := ior0 ⟨hr.1, by omega⟩
  rw [i0] at o0 p0
  refine ok_iconst 0 rfl rfl (by decide) (ok_iload_n 1 rfl rfl rfl (ok_ishl 2 rfl rfl (ok_ist4 3 rfl rfl rfl (ok_iconst 4 rfl rfl (by decide) (ok_ist5 5 rfl rfl rfl ?_)))))
  refine lpO2 (fun v i : Int => [some (vl J), none, some (vi r), some (vi n), some (vi v), some (vi i)]) (fun _ _ => σ) (fun v i => 0 ≤ i ∧ i ≤ n ∧ (0 ≤ v ∧ v < 256) ∧ ∀ c : Int, 0 ≤ c → c < 8 → (bt v c = true ↔ RS n W r i.toNat c)) (fun _ i => (8 - i).toNat) ?_ _ 0 ⟨by omega, by omega, o0, fun c a b => by rw [p0, bt_sB' hr.1 a, bt_0]; exact ⟨fun q => by rcases q with q | q; cases q; exact q, fun q => Or.inr q⟩⟩
  rintro v i ⟨i1, i2, v1, v2⟩ ih
  refine ok_iload 6 rfl rfl rfl (ok_iload_n 7 rfl rfl rfl (ok_icmp_ge 8 32 rfl rfl rfl (fun h11 => ?_) (fun h11 => ?_)))
  · refine ok_iload 18 rfl rfl rfl (ok_iret 19 rfl rfl rfl ?_)
    refine ⟨_, rfl, rfl, v1, fun c a b => ?_⟩
    rw [v2 c a b, show i = n by omega]
    exact RS_n hr a
  · refine ok_iload 9 rfl rfl rfl (ok_lload_n 10 rfl rfl rfl (ok_iload 11 rfl rfl rfl (ok_iload_n 12 rfl rfl rfl (ok_callSI (M' := M_Jo_columnsOf) (as := [_, _, _]) 13 rfl rfl ml_X1_25 (t_Jo_columnsOf hn v1) ⟨Nat.le_of_ble_eq_true rfl, Nat.le_of_ble_eq_true rfl⟩ rfl (Nat.le_of_ble_eq_true rfl) (fun σ' z hz => ?_)))))
    obtain ⟨hs_, hz⟩ := hz
    rw [hs_]; clear hs_ σ'
    obtain ⟨z1, z2⟩ := cOf_op hn.2 hJ hz
    have os := ior_sp v1 z1
    refine ok_ior 14 rfl rfl (ok_ist4 15 rfl rfl rfl (ok_inc5 16 rfl rfl rfl (by first | omega | (simp [up_if]; omega) | (simp [up_if] at *; omega)) (ok_goto 17 8 rfl rfl rfl ?_)))
    refine ih _ (i + 1) ⟨by omega, by omega, os.1, fun c a b => ?_⟩ (by omega)
    rw [os.2 c a b, Bool.or_eq_true, v2 c a b, z2 c a b, show (i + 1).toNat = i.toNat + 1 by omega]
    constructor
    · rintro (q | ⟨q1, k, k1, k2, k3, k4⟩)
      · exact Or.inl q
      · exact Or.inr ⟨q1, k, k1, k2, (v2 k k1 (by omega)).mp k3, k4⟩
    · rintro (q | ⟨q1, k, k1, k2, k3, k4⟩)
      · exact Or.inl q
      · exact Or.inr ⟨q1, k, k1, k2, (v2 k k1 (by omega)).mpr k3, k4⟩
theorem t_Jo_kinOf {σ : eS} {J r n : Int} {W : Int → Int → Int} (hn : 0 ≤ n ∧ n ≤ 8) (hr : 0 ≤ r ∧ r < n) (hJ : jOf J n (fun i j => 1 ≤ W i j)) : MtI shA M_Jo_kinOf [vl J, vi r, vi n] σ (fun σ' z => σ' = σ ∧ kiS n W r z) := by
  refine Mt.of okM_Jo_kinOf (Nat.le_of_ble_eq_true rfl) (fun hk hg => ?_)
  refine ok_lload_n 0 rfl rfl rfl (ok_iload_n 1 rfl rfl rfl (ok_iload_n 2 rfl rfl rfl (ok_callSI (M' := M_Jo_reachedFrom) (as := [_, _, _]) 3 rfl rfl ml_X1_37 (t_Jo_reachedFrom hn hr hJ) ⟨Nat.le_of_ble_eq_true rfl, Nat.le_of_ble_eq_true rfl⟩ rfl (Nat.le_of_ble_eq_true rfl) (fun σ' R hR => ?_))))
  obtain ⟨hs_, hR⟩ := hR
  rw [hs_]; clear hs_ σ'
  refine ok_ist4 4 rfl rfl rfl (ok_iconst 5 rfl rfl (by decide) (ok_ist5 6 rfl rfl rfl (ok_iconst 7 rfl rfl (by decide) (ok_ist6 8 rfl rfl rfl ?_))))
  obtain ⟨R1, R2⟩ := hR
  refine lpO2 (fun v i : Int => [some (vl J), none, some (vi r), some (vi n), some (vi R), some (vi v), some (vi i)]) (fun _ _ => σ) (fun v i => 0 ≤ i ∧ i ≤ n ∧ (0 ≤ v ∧ v < 256) ∧ ∀ c : Int, 0 ≤ c → c < 8 → (bt v c = true ↔ (c < i ∧ RT n W r c ∧ RT n W c r))) (fun _ i => (8 - i).toNat) ?_ 0 0 ⟨by omega, by omega, ⟨by omega, by omega⟩, fun c a b => by rw [bt_0]; constructor; intro q; cases q; intro q; omega⟩
  rintro v i ⟨i1, i2, v1, v2⟩ ih
  have nx : ∀ v', (0 ≤ v' ∧ v' < 256) → (∀ c : Int, 0 ≤ c → c < 8 → (bt v' c = true ↔ (bt v c = true ∨ (c = i ∧ RT n W r i ∧ RT n W i r)))) → ∀ c : Int, 0 ≤ c → c < 8 → (bt v' c = true ↔ (c < i + 1 ∧ RT n W r c ∧ RT n W c r)) := fun v' _ e c a b => by
    rw [e c a b, v2 c a b]
    constructor
    · rintro (q | ⟨q, q1, q2⟩)
      · exact ⟨by omega, q.2⟩
      · subst q; exact ⟨by omega, q1, q2⟩
    · rintro ⟨q, q1, q2⟩
      by_cases w : c = i
      · subst w; exact Or.inr ⟨rfl, q1, q2⟩
      · exact Or.inl ⟨by omega, q1, q2⟩
  refine ok_iload 9 rfl rfl rfl (ok_iload_n 10 rfl rfl rfl (ok_icmp_ge 11 59 rfl rfl rfl (fun h17 => ?_) (fun h17 => ?_)))
  · refine ok_iload 35 rfl rfl rfl (ok_iret 36 rfl rfl rfl ?_)
    exact ⟨_, rfl, rfl, v1, fun c a b => by rw [v2 c a b, show i = n by omega]⟩
  · have b1 := b_nz (s := R) (j := i) R1 ⟨i1, by omega⟩
    have r2 := R2 i i1 (by omega)
    refine ok_iload 12 rfl rfl rfl (ok_iload 13 rfl rfl rfl (ok_ishr 14 rfl rfl (ok_iconst 15 rfl rfl (by decide) (ok_iand 16 rfl rfl (ok_if_eq 17 53 rfl rfl rfl (fun h27 => ?_) (fun h27 => ?_))))))
    · refine ok_inc6 33 rfl rfl rfl (by first | omega | (simp [up_if]; omega) | (simp [up_if] at *; omega)) (ok_goto 34 14 rfl rfl rfl ?_)
      refine ih _ (i + 1) ⟨by omega, by omega, v1, nx v v1 (fun c a b => ⟨Or.inl, fun q => ?_⟩)⟩ (by omega)
      rcases q with q | ⟨-, q, -⟩
      · exact q
      · have := r2.mpr q; rw [b1.2.mp (by omega)] at this; cases this
    · refine ok_lload_n 18 rfl rfl rfl (ok_iload 19 rfl rfl rfl (ok_iload_n 20 rfl rfl rfl (ok_callSI (M' := M_Jo_reachedFrom) (as := [_, _, _]) 21 rfl rfl ml_X1_37 (t_Jo_reachedFrom hn ⟨i1, by omega⟩ hJ) ⟨Nat.le_of_ble_eq_true rfl, Nat.le_of_ble_eq_true rfl⟩ rfl (Nat.le_of_ble_eq_true rfl) (fun σ' S hS => ?_))))
      obtain ⟨hs_, hS⟩ := hS
      rw [hs_]; clear hs_ σ'
      obtain ⟨S1, S2⟩ := hS
      have b2 := b_nz (s := S) (j := r) S1 ⟨hr.1, by omega⟩
      have s2 := S2 r hr.1 (by omega)
      refine ok_iload_n 22 rfl rfl rfl (ok_ishr 23 rfl rfl (ok_iconst 24 rfl rfl (by decide) (ok_iand 25 rfl rfl (ok_if_eq 26 53 rfl rfl rfl (fun h41 => ?_) (fun h41 => ?_)))))
      · refine ok_inc6 33 rfl rfl rfl (by first | omega | (simp [up_if]; omega) | (simp [up_if] at *; omega)) (ok_goto 34 14 rfl rfl rfl ?_)
        refine ih _ (i + 1) ⟨by omega, by omega, v1, nx v v1 (fun c a b => ⟨Or.inl, fun q => ?_⟩)⟩ (by omega)
        rcases q with q | ⟨-, -, q⟩
        · exact q
        · have := s2.mpr q; rw [b2.2.mp (by omega)] at this; cases this
      · refine ok_iload 27 rfl rfl rfl (ok_iconst 28 rfl rfl (by decide) (ok_iload 29 rfl rfl rfl (ok_ishl 30 rfl rfl (ok_ior 31 rfl rfl (ok_ist5 32 rfl rfl rfl (ok_inc6 33 rfl rfl rfl (by first | omega | (simp [up_if]; omega) | (simp [up_if] at *; omega)) (ok_goto 34 14 rfl rfl rfl ?_)))))))
        have ob := or8 v1 (j := i) ⟨i1, by omega⟩
        refine ih _ (i + 1) ⟨by omega, by omega, ob, nx _ ob (fun c a b => ?_)⟩ (by omega)
        rw [bitP v1 ⟨i1, by omega⟩, bt_sB' i1 a]
        constructor
        · rintro (q | q)
          · exact Or.inl q
          · exact Or.inr ⟨q, r2.mp (b1.1.mp (by omega)), s2.mp (b2.1.mp (by omega))⟩
        · rintro (q | q)
          · exact Or.inl q
          · exact Or.inr q.1
def okKn (T : Prop) (n r : Int) : Prop := T ∧ 0 ≤ r ∧ r < n
theorem t_Ev_kin {σ : eS} {s r : Int} (h : IA σ) : MtI shA M_Ev_kin [vr 0, vi s, vi r] σ (fun σ' z => σ' = σ ∧ ((¬ okKn (tabA σ s) (σ (s.toNat + 2) 1) r ∧ z = -1) ∨ (okKn (tabA σ s) (σ (s.toNat + 2) 1) r ∧ kiS (σ (s.toNat + 2) 1) (cT σ (s.toNat + 2)) r z))) := by
  refine Mt.of okM_Ev_kin (Nat.le_of_ble_eq_true rfl) (fun hk hg => ?_)
  refine ok_aload_n 0 rfl rfl rfl (ok_iload_n 1 rfl rfl rfl (ok_callVR (M' := M_Ev_slotAt) (as := [_]) 2 rfl rfl ml_X11_86 (s_Ev_slotAt) rfl rfl (Nat.le_of_ble_eq_true rfl) ⟨Nat.le_of_ble_eq_true rfl, Nat.le_of_ble_eq_true rfl⟩ rfl (Nat.le_of_ble_eq_true rfl) (fun σ' z hz => ?_)))
  obtain ⟨hs_, hz⟩ := hz
  rw [hs_]; clear hs_ σ'
  rcases hz with ⟨q, q2⟩ | ⟨q1, q2, q⟩
  · subst q
    refine ok_ast3 3 rfl rfl rfl (ok_aload_n 4 rfl rfl rfl (ok_ifnullN 5 18 rfl rfl rfl (ok_iconst 10 rfl rfl (by decide) (ok_goto 11 35 rfl rfl rfl (ok_iret 19 rfl rfl rfl ?_)))))
    exact ⟨_, rfl, rfl, Or.inl ⟨fun c => q2 ⟨c.1.1, c.1.2.1⟩, rfl⟩⟩
  · subst q
    have ht := sl_tA ⟨q1, q2⟩
    have hT := (h.2.1 _ ht).1
    refine ok_ast3 3 rfl rfl rfl (ok_aload_n 4 rfl rfl rfl (ok_ifnull 5 rfl rfl (ok_aload_n 6 rfl rfl rfl (ok_iload_n 7 rfl rfl rfl (ok_callVI (M' := M_Ta_has) (as := [_]) 8 rfl rfl ml_X11_129 (s_Ta_has ht) (sT ht) rfl (Nat.le_of_ble_eq_true rfl) ⟨Nat.le_of_ble_eq_true rfl, Nat.le_of_ble_eq_true rfl⟩ rfl (Nat.le_of_ble_eq_true rfl) (fun σ' z1 x1 => ?_))))))
    obtain ⟨hs_, x1⟩ := x1
    rw [hs_]; clear hs_ σ'
    refine ok_if_ne 9 22 rfl rfl rfl (fun h15 => ?_) (fun h15 => ?_)
    · refine ok_aload_n 12 rfl rfl rfl (ok_iconst 13 rfl rfl (by decide) (ok_callVL (M' := M_Ta_joinedBy) (as := [_]) 14 rfl rfl ml_X11_119 (t_Ta_joinedBy ht hT) (sT ht) rfl (Nat.le_of_ble_eq_true rfl) ⟨Nat.le_of_ble_eq_true rfl, Nat.le_of_ble_eq_true rfl⟩ rfl (Nat.le_of_ble_eq_true rfl) (fun σ' z2 x2 => ?_)))
      obtain ⟨hs_, x2⟩ := x2
      rw [hs_]; clear hs_ σ'
      refine ok_iload_n 15 rfl rfl rfl (ok_aload_n 16 rfl rfl rfl (ok_getI 17 rfl rfl fl_X11_103 (sT ht) rfl (Or.inl rfl) (ok_callSI (M' := M_Jo_kinOf) (as := [_, _, _]) 18 rfl rfl ml_X11_283 (t_Jo_kinOf ⟨hT.1, hT.2.1⟩ ⟨by omega, by omega⟩ x2) ⟨Nat.le_of_ble_eq_true rfl, Nat.le_of_ble_eq_true rfl⟩ rfl (Nat.le_of_ble_eq_true rfl) (fun σ' z3 x3 => ?_))))
      obtain ⟨hs_, x3⟩ := x3
      rw [hs_]; clear hs_ σ'
      refine ok_iret 19 rfl rfl rfl ?_
      exact ⟨_, rfl, rfl, Or.inr ⟨⟨⟨q1, q2, by omega⟩, by omega⟩, x3⟩⟩
    · refine ok_iconst 10 rfl rfl (by decide) (ok_goto 11 35 rfl rfl rfl (ok_iret 19 rfl rfl rfl ?_))
      exact ⟨_, rfl, rfl, Or.inl ⟨fun c => by have := c.2; omega, rfl⟩⟩
/-- a round of Warshall's way, up to a place -/
def fdW (ρ : eS) (n : Int) (W : Int → Int → Int) (k : Nat) (m : Int) : Prop := ∀ x y, 0 ≤ x → x < n → 0 ≤ y → y < n → (ρ 21 (n * x + y) = 0 ∨ ρ 21 (n * x + y) = 1) ∧ (n * x + y < m → (ρ 21 (n * x + y) = 1 ↔ WP W (k + 1) x y)) ∧ (m ≤ n * x + y → (ρ 21 (n * x + y) = 1 ↔ WP W k x y))
theorem fdW_s {ρ : eS} {n i j v : Int} {W : Int → Int → Int} {k : Nat} (hn : 1 ≤ n ∧ n ≤ 8) (hi : 0 ≤ i ∧ i < n) (hj : 0 ≤ j ∧ j < n) (h : fdW ρ n W k (n * i + j)) (hv : v = 0 ∨ v = 1) (hv2 : v = 1 ↔ WP W (k + 1) i j) : fdW (up ρ 21 (n * i + j) v) n W k (n * i + (j + 1)) := fun x y a b d e => by
  by_cases q : n * x + y = n * i + j
  · obtain ⟨q1, q2⟩ := ix_inj hn ⟨d, e⟩ hj q
    rw [q1, q2, up_same]
    exact ⟨hv, fun _ => hv2, fun w => by omega⟩
  · rw [up_nk _ _ _ _ q]
    obtain ⟨h1, h2, h3⟩ := h x y a b d e
    exact ⟨h1, fun w => h2 (by omega), fun w => h3 (by omega)⟩
theorem t_Mo_kin {σ : eS} {s r : Int} (hB : iB1 σ) : MtI shB M_Mo_kin [vr 0, vi s, vi r] σ (fun σ' z => fr rgX σ σ' ∧ ((¬ okKn (tabB σ s) (σ 1 s) r ∧ z = -1) ∨ (okKn (tabB σ s) (σ 1 s) r ∧ kiS (σ 1 s) (cB σ s) r z))) := by
  refine Mt.of okM_Mo_kin (Nat.le_of_ble_eq_true rfl) (fun hk hg => ?_)
  refine ok_aload_n 0 rfl rfl rfl (ok_iload_n 1 rfl rfl rfl (ok_callVI (M' := M_Mo_isTable) (as := [_]) 2 rfl rfl ml_X12_111 (s_Mo_isTable_r) rfl rfl (Nat.le_of_ble_eq_true rfl) ⟨Nat.le_of_ble_eq_true rfl, Nat.le_of_ble_eq_true rfl⟩ rfl (Nat.le_of_ble_eq_true rfl) (fun σ' z1 a1 => ?_)))
  obtain ⟨hs_, a1⟩ := a1
  rw [hs_]; clear hs_ σ'
  refine ok_if_eq 3 26 rfl rfl rfl (fun h5 => ?_) (fun h5 => ?_)
  · refine ok_iconst 16 rfl rfl (by decide) (ok_iret 17 rfl rfl rfl ?_)
    exact ⟨_, rfl, fr.rf, Or.inl ⟨fun c => no1 a1 h5 c.1, rfl⟩⟩
  · obtain ⟨u1, u2, u3⟩ := yes1 a1 h5
    have tn := hB.1 s u1 u2
    refine ok_iload_n 4 rfl rfl rfl (ok_i2l 5 rfl rfl (ok_lconst (w := 0) 6 rfl rfl rfl (by decide) (ok_aload_n 7 rfl rfl rfl (ok_getR 8 rfl rfl fl_X12_7 rfl rfl (ok_iload_n 9 rfl rfl rfl (ok_iald 10 rfl rfl rfl (by first | omega | (simp [up_if]; omega) | (simp [up_if] at *; omega)) (ok_iconst 11 rfl rfl (by decide) (ok_isub 12 rfl rfl (by first | omega | (simp [up_if]; omega) | (simp [up_if] at *; omega)) (ok_i2l 13 rfl rfl (ok_callSI (M' := M_Mo_isIn) (as := [_, _, _]) 14 rfl rfl ml_X12_99 (s_Mo_isIn_r) ⟨Nat.le_of_ble_eq_true rfl, Nat.le_of_ble_eq_true rfl⟩ rfl (Nat.le_of_ble_eq_true rfl) (fun σ' z2 a2 => ?_)))))))))))
    obtain ⟨hs_, a2⟩ := a2
    rw [hs_]; clear hs_ σ'
    refine ok_if_ne 15 28 rfl rfl rfl (fun h23 => ?_) (fun h23 => ?_)
    · refine ok_aload_n 18 rfl rfl rfl (ok_getR 19 rfl rfl fl_X12_7 rfl rfl (ok_iload_n 20 rfl rfl rfl (ok_iald 21 rfl rfl rfl (by first | omega | (simp [up_if]; omega) | (simp [up_if] at *; omega)) (ok_ist3 22 rfl rfl rfl (ok_iconst 23 rfl rfl (by decide) (ok_ist4 24 rfl rfl rfl ?_))))))
      have hr := yes1 a2 h23
      have hok : okKn (tabB σ s) (σ 1 s) r := ⟨⟨u1, u2, u3⟩, by omega⟩
      obtain ⟨n, en⟩ : ∃ n, n = σ 1 s := ⟨_, rfl⟩
      rw [← en] at hok ⊢
      have n1 : 1 ≤ n ∧ n ≤ 8 := by omega
      have r1 : 0 ≤ r ∧ r < n := by omega
      obtain ⟨W, eW⟩ : ∃ W, W = cB σ s := ⟨_, rfl⟩
      have E : ∀ τ : eS, fr rgX σ τ → iB1 τ ∧ τ 1 s = n ∧ cB τ s = W := fun τ g => by
        have e1 : τ 1 s = σ 1 s := g 1 s (by simp [rgX])
        have e3 : ∀ k, τ 3 k = σ 3 k := fun k => g 3 k (by simp [rgX])
        exact ⟨iB1_frS hB g (fun c k q => by simp only [rgX]; omega), by rw [e1, en], by rw [eW]; funext i j; unfold cB; rw [e1, e3]⟩
      refine lpO2 (fun (k : Int) (_ : eS) => [some (vr 0), some (vi s), some (vi r), some (vi n), some (vi k), none, none]) (fun _ ρ => ρ) (fun k ρ => 0 ≤ k ∧ k ≤ n ∧ fr rgX σ ρ ∧ fdB ρ 21 n (n * k) (WP W 0)) (fun k _ => (n - k).toNat) ?_ 0 _ ⟨by omega, by omega, fr.rf, fun x y c d e g l => by have := ix8 (n := n) (i := x) (j := y) ⟨by omega, by omega⟩ ⟨c, d⟩ ⟨e, g⟩; omega⟩
      rintro k ρ ⟨k1, k2, f, hz⟩ ih
      refine ok_iload 25 rfl rfl rfl (ok_iload_n 26 rfl rfl rfl (ok_icmp_ge 27 101 rfl rfl rfl (fun h41 => ?_) (fun h41 => ?_)))
      · refine ok_iconst 57 rfl rfl (by decide) (ok_ist4 58 rfl rfl rfl ?_)
        have hz0 : ∀ x y, 0 ≤ x → x < n → 0 ≤ y → y < n → (ρ 21 (n * x + y) = 0 ∨ ρ 21 (n * x + y) = 1) ∧ (ρ 21 (n * x + y) = 1 ↔ WP W (0 : Int).toNat x y) := fun x y c d e g => by
          rw [show k = n by omega] at hz
          exact fdB_all n1 hz ⟨c, d⟩ ⟨e, g⟩
        clear ih k1 k2 hz
        refine lpO2 (fun (k : Int) (_ : eS) => [some (vr 0), some (vi s), some (vi r), some (vi n), some (vi k), none, none]) (fun _ ρ => ρ) (fun k ρ => 0 ≤ k ∧ k ≤ n ∧ fr rgX σ ρ ∧ ∀ x y, 0 ≤ x → x < n → 0 ≤ y → y < n → (ρ 21 (n * x + y) = 0 ∨ ρ 21 (n * x + y) = 1) ∧ (ρ 21 (n * x + y) = 1 ↔ WP W k.toNat x y)) (fun k _ => (n - k).toNat) ?_ 0 _ ⟨by omega, by omega, f, hz0⟩
        clear f hz0 h41 ρ k
        rintro k ρ ⟨k1, k2, f, hz⟩ ih
        refine ok_iload 59 rfl rfl rfl (ok_iload_n 60 rfl rfl rfl (ok_icmp_ge 61 208 rfl rfl rfl (fun h107 => ?_) (fun h107 => ?_)))
        · refine ok_iconst 116 rfl rfl (by decide) (ok_ist4 117 rfl rfl rfl (ok_iconst 118 rfl rfl (by decide) (ok_ist5 119 rfl rfl rfl ?_)))
          rw [show k = n by omega] at hz
          have hq : ∀ x y, 0 ≤ x → x < n → 0 ≤ y → y < n → (ρ 21 (n * x + y) = 0 ∨ ρ 21 (n * x + y) = 1) ∧ (ρ 21 (n * x + y) = 1 ↔ RT n W x y) := fun x y c d e g => ⟨(hz x y c d e g).1, (hz x y c d e g).2.trans (WP_iff ⟨c, d⟩ ⟨e, g⟩)⟩
          clear ih k1 k2 hz
          refine lpO2 (fun (v i : Int) => [some (vr 0), some (vi s), some (vi r), some (vi n), some (vi v), some (vi i), none]) (fun _ _ => ρ) (fun v i => 0 ≤ i ∧ i ≤ n ∧ (0 ≤ v ∧ v < 256) ∧ ∀ c : Int, 0 ≤ c → c < 8 → (bt v c = true ↔ (c < i ∧ RT n W r c ∧ RT n W c r))) (fun _ i => (n - i).toNat) ?_ 0 0 ⟨by omega, by omega, ⟨by omega, by omega⟩, fun c a b => by rw [bt_0]; constructor; intro q; cases q; intro q; omega⟩
          rintro v i ⟨i1, i2, v1, v2⟩ ih2
          refine ok_iload 120 rfl rfl rfl (ok_iload_n 121 rfl rfl rfl (ok_icmp_ge 122 270 rfl rfl rfl (fun h217 => ?_) (fun h217 => ?_)))
          · refine ok_iload 152 rfl rfl rfl (ok_iret 153 rfl rfl rfl ?_)
            refine ⟨_, rfl, f, Or.inr ⟨hok, v1, fun c a b => ?_⟩⟩
            rw [v2 c a b, show i = n by omega, eW]
          · have b1 := ix8 (n := n) (i := r) (j := i) ⟨by omega, by omega⟩ ⟨by omega, by omega⟩ ⟨by omega, by omega⟩
            have b2 := ix8 (n := n) (i := i) (j := r) ⟨by omega, by omega⟩ ⟨by omega, by omega⟩ ⟨by omega, by omega⟩
            have c1 := hq r i r1.1 r1.2 i1 (by omega)
            have c2 := hq i r i1 (by omega) r1.1 r1.2
            have ob := or8 v1 (j := i) ⟨i1, by omega⟩
            have bp := bitP v1 (j := i) ⟨i1, by omega⟩
            have nx1 : RT n W r i ∧ RT n W i r → ∀ c : Int, 0 ≤ c → c < 8 → (bt (ior v (ishl 1 i)) c = true ↔ (c < i + 1 ∧ RT n W r c ∧ RT n W c r)) := fun y c a b => by
              rw [bp, bt_sB' i1 a, v2 c a b]
              constructor
              · rintro (q | q)
                · exact ⟨by omega, q.2⟩
                · subst q; exact ⟨by omega, y⟩
              · rintro ⟨q, w⟩
                by_cases u : c = i
                · exact Or.inr u
                · exact Or.inl ⟨by omega, w⟩
            have nx0 : ¬ (RT n W r i ∧ RT n W i r) → ∀ c : Int, 0 ≤ c → c < 8 → (bt (ior v (ishl 0 i)) c = true ↔ (c < i + 1 ∧ RT n W r c ∧ RT n W c r)) := fun y c a b => by
              rw [ior_z v1 ⟨i1, by omega⟩, v2 c a b]
              constructor
              · rintro q; exact ⟨by omega, q.2⟩
              · rintro ⟨q, w⟩
                by_cases u : c = i
                · subst u; exact absurd w y
                · exact ⟨by omega, w⟩
            have oz := ior_z v1 (j := i) ⟨i1, by omega⟩
            refine ok_iload 123 rfl rfl rfl (ok_aload_n 124 rfl rfl rfl (ok_getR 125 rfl rfl fl_X12_75 rfl rfl (ok_iload_n 126 rfl rfl rfl (ok_iload_n 127 rfl rfl rfl (ok_imul 128 rfl rfl (by first | omega | (simp [up_if]; omega) | (simp [up_if] at *; omega)) (ok_iload 129 rfl rfl rfl (ok_iadd 130 rfl rfl (by first | omega | (simp [up_if]; omega) | (simp [up_if] at *; omega)) (ok_zald 131 rfl rfl rfl (by first | omega | (simp [up_if]; omega) | (simp [up_if] at *; omega)) (ok_if_eq 132 254 rfl rfl rfl (fun h233 => ?_) (fun h233 => ?_))))))))))
            · refine ok_iconst 144 rfl rfl (by decide) (ok_callSI (M' := M_Mo_one) (as := [_]) 145 rfl rfl ml_X12_192 (s_Mo_one) ⟨Nat.le_of_ble_eq_true rfl, Nat.le_of_ble_eq_true rfl⟩ rfl (Nat.le_of_ble_eq_true rfl) (fun σ' z hz => ?_))
              rw [hz.1, hz.2]; clear hz z σ'
              refine ok_iload 146 rfl rfl rfl (ok_ishl 147 rfl rfl (ok_ior 148 rfl rfl (ok_ist4 149 rfl rfl rfl (ok_inc5 150 rfl rfl rfl (by first | omega | (simp [up_if]; omega) | (simp [up_if] at *; omega)) (ok_goto 151 214 rfl rfl rfl ?_)))))
              first
                | (rw [if_neg (by decide)]
                   exact ih2 _ (i + 1) ⟨by omega, by omega, ob, nx1 ⟨c1.2.mp (by omega), c2.2.mp (by omega)⟩⟩ (by omega))
                | (rw [if_pos rfl]
                   exact ih2 _ (i + 1) ⟨by omega, by omega, by rw [oz]; exact v1, nx0 (fun y => by have y1 := c1.2.mpr y.1; have y2 := c2.2.mpr y.2; omega)⟩ (by omega))
            · refine ok_aload_n 133 rfl rfl rfl (ok_getR 134 rfl rfl fl_X12_75 rfl rfl (ok_iload_n 135 rfl rfl rfl (ok_iload 136 rfl rfl rfl (ok_imul 137 rfl rfl (by first | omega | (simp [up_if]; omega) | (simp [up_if] at *; omega)) (ok_iload_n 138 rfl rfl rfl (ok_iadd 139 rfl rfl (by first | omega | (simp [up_if]; omega) | (simp [up_if] at *; omega)) (ok_zald 140 rfl rfl rfl (by first | omega | (simp [up_if]; omega) | (simp [up_if] at *; omega)) (ok_if_eq 141 254 rfl rfl rfl (fun h247 => ?_) (fun h247 => ?_)))))))))
              · refine ok_iconst 144 rfl rfl (by decide) (ok_callSI (M' := M_Mo_one) (as := [_]) 145 rfl rfl ml_X12_192 (s_Mo_one) ⟨Nat.le_of_ble_eq_true rfl, Nat.le_of_ble_eq_true rfl⟩ rfl (Nat.le_of_ble_eq_true rfl) (fun σ' z hz => ?_))
                rw [hz.1, hz.2]; clear hz z σ'
                refine ok_iload 146 rfl rfl rfl (ok_ishl 147 rfl rfl (ok_ior 148 rfl rfl (ok_ist4 149 rfl rfl rfl (ok_inc5 150 rfl rfl rfl (by first | omega | (simp [up_if]; omega) | (simp [up_if] at *; omega)) (ok_goto 151 214 rfl rfl rfl ?_)))))
                first
                  | (rw [if_neg (by decide)]
                     exact ih2 _ (i + 1) ⟨by omega, by omega, ob, nx1 ⟨c1.2.mp (by omega), c2.2.mp (by omega)⟩⟩ (by omega))
                  | (rw [if_pos rfl]
                     exact ih2 _ (i + 1) ⟨by omega, by omega, by rw [oz]; exact v1, nx0 (fun y => by have y1 := c1.2.mpr y.1; have y2 := c2.2.mpr y.2; omega)⟩ (by omega))
              · refine ok_iconst 142 rfl rfl (by decide) (ok_goto 143 255 rfl rfl rfl (ok_callSI (M' := M_Mo_one) (as := [_]) 145 rfl rfl ml_X12_192 (s_Mo_one) ⟨Nat.le_of_ble_eq_true rfl, Nat.le_of_ble_eq_true rfl⟩ rfl (Nat.le_of_ble_eq_true rfl) (fun σ' z hz => ?_)))
                rw [hz.1, hz.2]; clear hz z σ'
                refine ok_iload 146 rfl rfl rfl (ok_ishl 147 rfl rfl (ok_ior 148 rfl rfl (ok_ist4 149 rfl rfl rfl (ok_inc5 150 rfl rfl rfl (by first | omega | (simp [up_if]; omega) | (simp [up_if] at *; omega)) (ok_goto 151 214 rfl rfl rfl ?_)))))
                first
                  | (rw [if_neg (by decide)]
                     exact ih2 _ (i + 1) ⟨by omega, by omega, ob, nx1 ⟨c1.2.mp (by omega), c2.2.mp (by omega)⟩⟩ (by omega))
                  | (rw [if_pos rfl]
                     exact ih2 _ (i + 1) ⟨by omega, by omega, by rw [oz]; exact v1, nx0 (fun y => by have y1 := c1.2.mpr y.1; have y2 := c2.2.mpr y.2; omega)⟩ (by omega))
        · refine ok_iconst 62 rfl rfl (by decide) (ok_ist5 63 rfl rfl rfl ?_)
          have kn : k < n := by omega
          have ek : ((k.toNat : Nat) : Int) = k := Int.toNat_of_nonneg k1
          refine lpO2 (fun (i : Int) (_ : eS) => [some (vr 0), some (vi s), some (vi r), some (vi n), some (vi k), some (vi i), none]) (fun _ ρ => ρ) (fun i ρ => 0 ≤ i ∧ i ≤ n ∧ fr rgX σ ρ ∧ fdW ρ n W k.toNat (n * i)) (fun i _ => (n - i).toNat) ?_ 0 _ ⟨by omega, by omega, f, fun x y c d e g => by have := ix8 (n := n) (i := x) (j := y) ⟨by omega, by omega⟩ ⟨c, d⟩ ⟨e, g⟩; exact ⟨(hz x y c d e g).1, fun w => by omega, fun _ => (hz x y c d e g).2⟩⟩
          clear f hz ρ
          rintro i ρ ⟨i1, i2, f, hz⟩ ih2
          refine ok_iload 64 rfl rfl rfl (ok_iload_n 65 rfl rfl rfl (ok_icmp_ge 66 202 rfl rfl rfl (fun h116 => ?_) (fun h116 => ?_)))
          · refine ok_inc4 114 rfl rfl rfl (by first | omega | (simp [up_if]; omega) | (simp [up_if] at *; omega)) (ok_goto 115 104 rfl rfl rfl ?_)
            refine ok_fg [some (vr 0), some (vi s), some (vi r), some (vi n), some (vi (k + 1)), none, none] ⟨rfl, rfl, rfl, rfl, rfl, trivial⟩ (ih (k + 1) _ ⟨by omega, by omega, f, fun x y c d e g => ?_⟩ (by omega))
            rw [show i = n by omega] at hz
            have bx := ix8 (n := n) (i := x) (j := y) ⟨by omega, by omega⟩ ⟨c, d⟩ ⟨e, g⟩
            obtain ⟨h1, h2, -⟩ := hz x y c d e g
            rw [show (k + 1).toNat = k.toNat + 1 by omega]
            exact ⟨h1, h2 (by omega)⟩
          · refine ok_iconst 67 rfl rfl (by decide) (ok_ist6 68 rfl rfl rfl ?_)
            refine lpO2 (fun (j : Int) (_ : eS) => [some (vr 0), some (vi s), some (vi r), some (vi n), some (vi k), some (vi i), some (vi j)]) (fun _ ρ => ρ) (fun j ρ => 0 ≤ j ∧ j ≤ n ∧ fr rgX σ ρ ∧ fdW ρ n W k.toNat (n * i + j)) (fun j _ => (n - j).toNat) ?_ 0 _ ⟨by omega, by omega, f, by rw [Int.add_zero]; exact hz⟩
            clear f hz ρ
            rintro j ρ ⟨j1, j2, f, hz⟩ ih3
            refine ok_iload 69 rfl rfl rfl (ok_iload_n 70 rfl rfl rfl (ok_icmp_ge 71 196 rfl rfl rfl (fun h125 => ?_) (fun h125 => ?_)))
            · refine ok_inc5 112 rfl rfl rfl (by first | omega | (simp [up_if]; omega) | (simp [up_if] at *; omega)) (ok_goto 113 113 rfl rfl rfl ?_)
              exact ok_fg [some (vr 0), some (vi s), some (vi r), some (vi n), some (vi k), some (vi (i + 1)), none] ⟨rfl, rfl, rfl, rfl, rfl, rfl, trivial⟩ (ih2 (i + 1) _ ⟨by omega, by omega, f, by rw [show j = n by omega] at hz; rw [Int.mul_add, Int.mul_one]; exact hz⟩ (by omega))
            · have b1 := ix8 (n := n) (i := i) (j := j) ⟨by omega, by omega⟩ ⟨by omega, by omega⟩ ⟨by omega, by omega⟩
              have b2 := ix8 (n := n) (i := i) (j := k) ⟨by omega, by omega⟩ ⟨by omega, by omega⟩ ⟨by omega, by omega⟩
              have b3 := ix8 (n := n) (i := k) (j := j) ⟨by omega, by omega⟩ ⟨by omega, by omega⟩ ⟨by omega, by omega⟩
              obtain ⟨h1, -, h2⟩ := hz i j i1 (by omega) j1 (by omega)
              have h2 := h2 (Int.le_refl _)
              obtain ⟨g1, g2, g3⟩ := hz i k i1 (by omega) k1 kn
              have g4 : ρ 21 (n * i + k) = 1 ↔ WP W k.toNat i k := by
                rcases (by omega : n * i + k < n * i + j ∨ n * i + j ≤ n * i + k) with y | y
                · have x := g2 y; have w := WP_k1 (W := W) (k := k.toNat) (i := i); rw [ek] at w; exact x.trans w
                · exact g3 y
              obtain ⟨d1, d2, d3⟩ := hz k j k1 kn j1 (by omega)
              have d4 : ρ 21 (n * k + j) = 1 ↔ WP W k.toNat k j := by
                rcases (by omega : n * k + j < n * i + j ∨ n * i + j ≤ n * k + j) with y | y
                · have x := d2 y; have w := WP_k2 (W := W) (k := k.toNat) (j := j); rw [ek] at w; exact x.trans w
                · exact d3 y
              have st : WP W (k.toNat + 1) i j ↔ (WP W k.toNat i j ∨ (WP W k.toNat i k ∧ WP W k.toNat k j)) := by show (WP W k.toNat i j ∨ (WP W k.toNat i ((k.toNat : Nat) : Int) ∧ WP W k.toNat ((k.toNat : Nat) : Int) j)) ↔ _; rw [ek]
              refine ok_aload_n 72 rfl rfl rfl (ok_getR 73 rfl rfl fl_X12_75 rfl rfl (ok_iload_n 74 rfl rfl rfl (ok_iload 75 rfl rfl rfl (ok_imul 76 rfl rfl (by first | omega | (simp [up_if]; omega) | (simp [up_if] at *; omega)) (ok_iload 77 rfl rfl rfl (ok_iadd 78 rfl rfl (by first | omega | (simp [up_if]; omega) | (simp [up_if] at *; omega)) (ok_aload_n 79 rfl rfl rfl (ok_getR 80 rfl rfl fl_X12_75 rfl rfl (ok_iload_n 81 rfl rfl rfl (ok_iload 82 rfl rfl rfl (ok_imul 83 rfl rfl (by first | omega | (simp [up_if]; omega) | (simp [up_if] at *; omega)) (ok_iload 84 rfl rfl rfl (ok_iadd 85 rfl rfl (by first | omega | (simp [up_if]; omega) | (simp [up_if] at *; omega)) (ok_zald 86 rfl rfl rfl (by first | omega | (simp [up_if]; omega) | (simp [up_if] at *; omega)) (ok_if_ne 87 184 rfl rfl rfl (fun h151 => ?_) (fun h151 => ?_))))))))))))))))
              · refine ok_iconst 106 rfl rfl (by decide) (ok_goto 107 189 rfl rfl rfl (ok_zast 109 rfl rfl rfl (by first | omega | (simp [up_if]; omega) | (simp [up_if] at *; omega)) (by first | omega | (simp [up_if]; omega) | (simp [up_if] at *; omega)) (ok_inc6 110 rfl rfl rfl (by first | omega | (simp [up_if]; omega) | (simp [up_if] at *; omega)) (ok_goto 111 122 rfl rfl rfl ?_))))
                refine ih3 (j + 1) _ ⟨by omega, by omega, fr_up f (by simp [rgX]), fdW_s n1 ⟨i1, by omega⟩ ⟨j1, by omega⟩ hz (by omega) ?_⟩ (by omega)
                rw [st, ← h2, ← g4, ← d4]
                omega
              · refine ok_aload_n 88 rfl rfl rfl (ok_getR 89 rfl rfl fl_X12_75 rfl rfl (ok_iload_n 90 rfl rfl rfl (ok_iload 91 rfl rfl rfl (ok_imul 92 rfl rfl (by first | omega | (simp [up_if]; omega) | (simp [up_if] at *; omega)) (ok_iload 93 rfl rfl rfl (ok_iadd 94 rfl rfl (by first | omega | (simp [up_if]; omega) | (simp [up_if] at *; omega)) (ok_zald 95 rfl rfl rfl (by first | omega | (simp [up_if]; omega) | (simp [up_if] at *; omega)) (ok_if_eq 96 188 rfl rfl rfl (fun h166 => ?_) (fun h166 => ?_)))))))))
                · refine ok_iconst 108 rfl rfl (by decide) (ok_zast 109 rfl rfl rfl (by first | omega | (simp [up_if]; omega) | (simp [up_if] at *; omega)) (by first | omega | (simp [up_if]; omega) | (simp [up_if] at *; omega)) (ok_inc6 110 rfl rfl rfl (by first | omega | (simp [up_if]; omega) | (simp [up_if] at *; omega)) (ok_goto 111 122 rfl rfl rfl ?_)))
                  refine ih3 (j + 1) _ ⟨by omega, by omega, fr_up f (by simp [rgX]), fdW_s n1 ⟨i1, by omega⟩ ⟨j1, by omega⟩ hz (by omega) ?_⟩ (by omega)
                  rw [st, ← h2, ← g4, ← d4]
                  omega
                · refine ok_aload_n 97 rfl rfl rfl (ok_getR 98 rfl rfl fl_X12_75 rfl rfl (ok_iload_n 99 rfl rfl rfl (ok_iload 100 rfl rfl rfl (ok_imul 101 rfl rfl (by first | omega | (simp [up_if]; omega) | (simp [up_if] at *; omega)) (ok_iload 102 rfl rfl rfl (ok_iadd 103 rfl rfl (by first | omega | (simp [up_if]; omega) | (simp [up_if] at *; omega)) (ok_zald 104 rfl rfl rfl (by first | omega | (simp [up_if]; omega) | (simp [up_if] at *; omega)) (ok_if_eq 105 188 rfl rfl rfl (fun h181 => ?_) (fun h181 => ?_)))))))))
                  · refine ok_iconst 108 rfl rfl (by decide) (ok_zast 109 rfl rfl rfl (by first | omega | (simp [up_if]; omega) | (simp [up_if] at *; omega)) (by first | omega | (simp [up_if]; omega) | (simp [up_if] at *; omega)) (ok_inc6 110 rfl rfl rfl (by first | omega | (simp [up_if]; omega) | (simp [up_if] at *; omega)) (ok_goto 111 122 rfl rfl rfl ?_)))
                    refine ih3 (j + 1) _ ⟨by omega, by omega, fr_up f (by simp [rgX]), fdW_s n1 ⟨i1, by omega⟩ ⟨j1, by omega⟩ hz (by omega) ?_⟩ (by omega)
                    rw [st, ← h2, ← g4, ← d4]
                    omega
                  · refine ok_iconst 106 rfl rfl (by decide) (ok_goto 107 189 rfl rfl rfl (ok_zast 109 rfl rfl rfl (by first | omega | (simp [up_if]; omega) | (simp [up_if] at *; omega)) (by first | omega | (simp [up_if]; omega) | (simp [up_if] at *; omega)) (ok_inc6 110 rfl rfl rfl (by first | omega | (simp [up_if]; omega) | (simp [up_if] at *; omega)) (ok_goto 111 122 rfl rfl rfl ?_))))
                    refine ih3 (j + 1) _ ⟨by omega, by omega, fr_up f (by simp [rgX]), fdW_s n1 ⟨i1, by omega⟩ ⟨j1, by omega⟩ hz (by omega) ?_⟩ (by omega)
                    rw [st, ← h2, ← g4, ← d4]
                    omega
      · refine ok_iconst 28 rfl rfl (by decide) (ok_ist5 29 rfl rfl rfl ?_)
        refine lpO2 (fun (j : Int) (_ : eS) => [some (vr 0), some (vi s), some (vi r), some (vi n), some (vi k), some (vi j), none]) (fun _ ρ => ρ) (fun j ρ => 0 ≤ j ∧ j ≤ n ∧ fr rgX σ ρ ∧ fdB ρ 21 n (n * k + j) (WP W 0)) (fun j _ => (n - j).toNat) ?_ 0 _ ⟨by omega, by omega, f, by rw [Int.add_zero]; exact hz⟩
        clear f hz ρ
        rintro j ρ ⟨j1, j2, f, hz⟩ ih2
        obtain ⟨eb, e1, ec⟩ := E ρ f
        refine ok_iload 30 rfl rfl rfl (ok_iload_n 31 rfl rfl rfl (ok_icmp_ge 32 95 rfl rfl rfl (fun h50 => ?_) (fun h50 => ?_)))
        · refine ok_inc4 55 rfl rfl rfl (by first | omega | (simp [up_if]; omega) | (simp [up_if] at *; omega)) (ok_goto 56 38 rfl rfl rfl ?_)
          exact ok_fg [some (vr 0), some (vi s), some (vi r), some (vi n), some (vi (k + 1)), none, none] ⟨rfl, rfl, rfl, rfl, rfl, trivial⟩ (ih (k + 1) _ ⟨by omega, by omega, f, fdB_r (by rw [show j = n by omega] at hz; exact hz)⟩ (by omega))
        · have bm := ix8 (n := n) (i := k) (j := j) ⟨by omega, by omega⟩ ⟨by omega, by omega⟩ ⟨by omega, by omega⟩
          refine ok_aload_n 33 rfl rfl rfl (ok_getR 34 rfl rfl fl_X12_75 rfl rfl (ok_iload_n 35 rfl rfl rfl (ok_iload 36 rfl rfl rfl (ok_imul 37 rfl rfl (by first | omega | (simp [up_if]; omega) | (simp [up_if] at *; omega)) (ok_iload 38 rfl rfl rfl (ok_iadd 39 rfl rfl (by first | omega | (simp [up_if]; omega) | (simp [up_if] at *; omega)) (ok_iload 40 rfl rfl rfl (ok_iload 41 rfl rfl rfl (ok_icmp_eq 42 83 rfl rfl rfl (fun h68 => ?_) (fun h68 => ?_))))))))))
          · refine ok_iconst 49 rfl rfl (by decide) (ok_goto 50 88 rfl rfl rfl (ok_zast 52 rfl rfl rfl (by first | omega | (simp [up_if]; omega) | (simp [up_if] at *; omega)) (by first | omega | (simp [up_if]; omega) | (simp [up_if] at *; omega)) (ok_inc5 53 rfl rfl rfl (by first | omega | (simp [up_if]; omega) | (simp [up_if] at *; omega)) (ok_goto 54 47 rfl rfl rfl ?_))))
            refine ih2 (j + 1) _ ⟨by omega, by omega, fr_up f (by simp [rgX]), fdB_s n1 ⟨by omega, by omega⟩ ⟨by omega, by omega⟩ hz (by omega) ?_⟩ (by omega)
            first
              | exact ⟨fun _ => Or.inl (by omega), fun _ => rfl⟩
              | exact ⟨fun _ => Or.inr (by omega), fun _ => rfl⟩
              | exact ⟨fun y => absurd y (by decide), fun y => by rcases y with y | y <;> omega⟩
          · refine ok_aload_n 43 rfl rfl rfl (ok_iload_n 44 rfl rfl rfl (ok_iload 45 rfl rfl rfl (ok_iload 46 rfl rfl rfl (ok_callVI (M' := M_Mo_at) (as := [_, _, _]) 47 rfl rfl ml_X12_107 (s_Mo_at eb ⟨u1, u2⟩ ⟨by omega, by omega⟩ ⟨by omega, by omega⟩) rfl rfl (Nat.le_of_ble_eq_true rfl) ⟨Nat.le_of_ble_eq_true rfl, Nat.le_of_ble_eq_true rfl⟩ rfl (Nat.le_of_ble_eq_true rfl) (fun σ' z hz2 => ?_)))))
            rw [hz2.1, hz2.2, ec]; clear hz2 z σ'
            refine ok_if_le 48 87 rfl rfl rfl (fun h80 => ?_) (fun h80 => ?_)
            · refine ok_iconst 51 rfl rfl (by decide) (ok_zast 52 rfl rfl rfl (by first | omega | (simp [up_if]; omega) | (simp [up_if] at *; omega)) (by first | omega | (simp [up_if]; omega) | (simp [up_if] at *; omega)) (ok_inc5 53 rfl rfl rfl (by first | omega | (simp [up_if]; omega) | (simp [up_if] at *; omega)) (ok_goto 54 47 rfl rfl rfl ?_)))
              refine ih2 (j + 1) _ ⟨by omega, by omega, fr_up f (by simp [rgX]), fdB_s n1 ⟨by omega, by omega⟩ ⟨by omega, by omega⟩ hz (by omega) ?_⟩ (by omega)
              first
                | exact ⟨fun _ => Or.inl (by omega), fun _ => rfl⟩
                | exact ⟨fun _ => Or.inr (by omega), fun _ => rfl⟩
                | exact ⟨fun y => absurd y (by decide), fun y => by rcases y with y | y <;> omega⟩
            · refine ok_iconst 49 rfl rfl (by decide) (ok_goto 50 88 rfl rfl rfl (ok_zast 52 rfl rfl rfl (by first | omega | (simp [up_if]; omega) | (simp [up_if] at *; omega)) (by first | omega | (simp [up_if]; omega) | (simp [up_if] at *; omega)) (ok_inc5 53 rfl rfl rfl (by first | omega | (simp [up_if]; omega) | (simp [up_if] at *; omega)) (ok_goto 54 47 rfl rfl rfl ?_))))
              refine ih2 (j + 1) _ ⟨by omega, by omega, fr_up f (by simp [rgX]), fdB_s n1 ⟨by omega, by omega⟩ ⟨by omega, by omega⟩ hz (by omega) ?_⟩ (by omega)
              first
                | exact ⟨fun _ => Or.inl (by omega), fun _ => rfl⟩
                | exact ⟨fun _ => Or.inr (by omega), fun _ => rfl⟩
                | exact ⟨fun y => absurd y (by decide), fun y => by rcases y with y | y <;> omega⟩
    · refine ok_iconst 16 rfl rfl (by decide) (ok_iret 17 rfl rfl rfl ?_)
      exact ⟨_, rfl, fr.rf, Or.inl ⟨fun c => no1 a2 h23 (by have := c.2; omega), rfl⟩⟩
end
section
/-! GROUPS: rows that hang together, counted by rounds and by labels -/
noncomputable def ind (p : Prop) : Int := @ite Int p (Classical.propDecidable _) 1 0
theorem ind_t {p : Prop} (h : p) : ind p = 1 := by unfold ind; rw [if_pos h]
theorem ind_f {p : Prop} (h : ¬ p) : ind p = 0 := by unfold ind; rw [if_neg h]
theorem ind_cg {p q : Prop} (h : p ↔ q) : ind p = ind q := by
  by_cases w : p
  · rw [ind_t w, ind_t (h.mp w)]
  · rw [ind_f w, ind_f (fun x => w (h.mpr x))]
theorem ind_bd (p : Prop) : 0 ≤ ind p ∧ ind p ≤ 1 := by
  by_cases w : p
  · rw [ind_t w]; omega
  · rw [ind_f w]; omega
noncomputable def W2 (n : Int) (W : Int → Int → Int) (r k : Int) : Int := ind (∃ j, 0 ≤ j ∧ j < n ∧ 1 ≤ W r j ∧ 1 ≤ W k j)
theorem W2_1 {n : Int} {W : Int → Int → Int} {r k : Int} : 1 ≤ W2 n W r k ↔ ∃ j, 0 ≤ j ∧ j < n ∧ 1 ≤ W r j ∧ 1 ≤ W k j := by
  unfold W2
  by_cases w : ∃ j, 0 ≤ j ∧ j < n ∧ 1 ≤ W r j ∧ 1 ≤ W k j
  · rw [ind_t w]; exact ⟨fun _ => w, fun _ => Int.le_refl _⟩
  · rw [ind_f w]; exact ⟨fun q => absurd q (by decide), fun q => absurd q w⟩
theorem W2_ag {n : Int} {W V : Int → Int → Int} (e : ag n W V) : ag n (W2 n W) (W2 n V) := fun i k a b c d => by
  unfold W2
  refine ind_cg ?_
  constructor
  · rintro ⟨j, j1, j2, j3, j4⟩; exact ⟨j, j1, j2, by rw [← e i j a b j1 j2]; exact j3, by rw [← e k j c d j1 j2]; exact j4⟩
  · rintro ⟨j, j1, j2, j3, j4⟩; exact ⟨j, j1, j2, by rw [e i j a b j1 j2]; exact j3, by rw [e k j c d j1 j2]; exact j4⟩
def newR (n : Int) (W : Int → Int → Int) (r : Int) : Prop := ¬ ∃ k, 0 ≤ k ∧ k < r ∧ RT n (W2 n W) k r
def lonC (n : Int) (W : Int → Int → Int) (j : Int) : Prop := ¬ ∃ r, 0 ≤ r ∧ r < n ∧ 1 ≤ W r j
noncomputable def gpV (n : Int) (W : Int → Int → Int) : Int := sm (fun r => ind (newR n W r)) n.toNat + sm (fun j => ind (lonC n W j)) n.toNat
theorem gpV_cg {n : Int} {W V : Int → Int → Int} (e : ag n W V) : gpV n W = gpV n V := by
  have e1 : sm (fun r => ind (newR n W r)) n.toNat = sm (fun r => ind (newR n V r)) n.toNat := sm_cg (fun r a b => by
    refine ind_cg (not_congr ?_)
    constructor
    · rintro ⟨k, k1, k2, k3⟩; exact ⟨k, k1, k2, (RT_cg (W2_ag e) ⟨k1, by omega⟩ a).mp k3⟩
    · rintro ⟨k, k1, k2, k3⟩; exact ⟨k, k1, k2, (RT_cg (W2_ag e) ⟨k1, by omega⟩ a).mpr k3⟩)
  have e2 : sm (fun j => ind (lonC n W j)) n.toNat = sm (fun j => ind (lonC n V j)) n.toNat := sm_cg (fun j a b => by
    refine ind_cg (not_congr ?_)
    constructor
    · rintro ⟨k, k1, k2, k3⟩; exact ⟨k, k1, k2, by rw [← e k j k1 k2 a (by omega)]; exact k3⟩
    · rintro ⟨k, k1, k2, k3⟩; exact ⟨k, k1, k2, by rw [e k j k1 k2 a (by omega)]; exact k3⟩)
  unfold gpV
  rw [e1, e2]
/-- the rounds of the class -/
theorem pcb_f : ∀ s : Fin 256, pc (s.val : Int) = sm (fun c => if bt (s.val : Int) c = true then 1 else 0) 8 := by decide +kernel
theorem pcb {s : Int} (h : 0 ≤ s ∧ s < 256) : pc s = sm (fun c => if bt s c = true then 1 else 0) 8 := fin1 (P := fun s => pc s = sm (fun c => if bt s c = true then 1 else 0) 8) pcb_f h.1 h.2
theorem t_Jo_rowsOf {σ : eS} {J s n : Int} {op : Int → Int → Prop} (hn : 0 ≤ n ∧ n ≤ 8) (hs : 0 ≤ s ∧ s < 256) (hJ : jOf J n op) : MtI shA M_Jo_rowsOf [vl J, vi s, vi n] σ (fun σ' z => σ' = σ ∧ (0 ≤ z ∧ z < 256) ∧ ∀ k : Int, 0 ≤ k → k < 8 → (bt z k = true ↔ (k < n ∧ ∃ j, 0 ≤ j ∧ j < n ∧ bt s j = true ∧ op k j))) := by
  refine Mt.of okM_Jo_rowsOf (Nat.le_of_ble_eq_true rfl) (fun hk hg => ?_)
  refine ok_iconst 0 rfl rfl (by decide) (ok_ist4 1 rfl rfl rfl (ok_iconst 2 rfl rfl (by decide) (ok_ist5 3 rfl rfl rfl ?_)))
  refine lpO2 (fun v i : Int => [some (vl J), none, some (vi s), some (vi n), some (vi v), some (vi i)]) (fun _ _ => σ) (fun v i => 0 ≤ i ∧ i ≤ n ∧ (0 ≤ v ∧ v < 256) ∧ ∀ k : Int, 0 ≤ k → k < 8 → (bt v k = true ↔ (k < i ∧ ∃ j, 0 ≤ j ∧ j < n ∧ bt s j = true ∧ op k j))) (fun _ i => (8 - i).toNat) ?_ 0 0 ⟨by omega, by omega, ⟨by omega, by omega⟩, fun k a b => by rw [bt_0]; constructor; intro q; cases q; rintro ⟨q, -⟩; omega⟩
  rintro v i ⟨i1, i2, v1, v2⟩ ih
  have nx : ∀ v', (∀ k : Int, 0 ≤ k → k < 8 → (bt v' k = true ↔ (bt v k = true ∨ (k = i ∧ ∃ j, 0 ≤ j ∧ j < n ∧ bt s j = true ∧ op i j)))) → ∀ k : Int, 0 ≤ k → k < 8 → (bt v' k = true ↔ (k < i + 1 ∧ ∃ j, 0 ≤ j ∧ j < n ∧ bt s j = true ∧ op k j)) := fun v' e k a b => by
    rw [e k a b, v2 k a b]
    constructor
    · rintro (q | ⟨q, q1⟩)
      · exact ⟨by omega, q.2⟩
      · subst q; exact ⟨by omega, q1⟩
    · rintro ⟨q, q1⟩
      by_cases w : k = i
      · subst w; exact Or.inr ⟨rfl, q1⟩
      · exact Or.inl ⟨by omega, q1⟩
  refine ok_iload 4 rfl rfl rfl (ok_iload_n 5 rfl rfl rfl (ok_icmp_ge 6 38 rfl rfl rfl (fun h9 => ?_) (fun h9 => ?_)))
  · refine ok_iload 21 rfl rfl rfl (ok_iret 22 rfl rfl rfl ?_)
    exact ⟨_, rfl, rfl, v1, fun k a b => by rw [v2 k a b, show i = n by omega]⟩
  · have rj := rowJ_sp (J := J) (r := i) ⟨by omega, by omega⟩
    have an := iand_sp (b := s) rj.1 hs
    have ob := or8 v1 (j := i) ⟨i1, by omega⟩
    have bp := bitP v1 (j := i) ⟨i1, by omega⟩
    refine ok_lload_n 7 rfl rfl rfl (ok_iload 8 rfl rfl rfl (ok_callSI (M' := M_Jo_rowOf) (as := [_, _]) 9 rfl rfl ml_X1_17 (s_Jo_rowOf) ⟨Nat.le_of_ble_eq_true rfl, Nat.le_of_ble_eq_true rfl⟩ rfl (Nat.le_of_ble_eq_true rfl) (fun σ' z hz => ?_)))
    rw [hz.1, hz.2]
    clear hz z σ'
    refine ok_iload_n 10 rfl rfl rfl (ok_iand 11 rfl rfl (ok_if_eq 12 32 rfl rfl rfl (fun h20 => ?_) (fun h20 => ?_)))
    · refine ok_inc5 19 rfl rfl rfl (by first | omega | (simp [up_if]; omega) | (simp [up_if] at *; omega)) (ok_goto 20 6 rfl rfl rfl ?_)
      first
        | (refine ih _ (i + 1) ⟨by omega, by omega, ob, nx _ (fun k a b => ?_)⟩ (by omega)
           rw [bp, bt_sB' i1 a]
           refine or_congr Iff.rfl ⟨fun q => ⟨q, ?_⟩, fun q => q.1⟩
           have hne : iand (rowJ J i) s ≠ 0 := by omega
           have hx : ∃ c : Int, 0 ≤ c ∧ c < 8 ∧ bt (iand (rowJ J i) s) c = true := by
             refine Classical.byContradiction (fun hno => hne (bt_ext an.1 ⟨by omega, by omega⟩ (fun c a b => ?_)))
             rw [bt_0]
             cases w : bt (iand (rowJ J i) s) c
             · rfl
             · exact absurd ⟨c, a, b, w⟩ hno
           obtain ⟨c, c1, c2, c3⟩ := hx
           rw [an.2 c c1 c2, rj.2 c c1 c2, Bool.and_eq_true] at c3
           obtain ⟨-, q2, q3⟩ := (hJ.2 i c i1 (by omega) c1 c2).mp c3.1
           exact ⟨c, c1, q2, c3.2, q3⟩)
        | (refine ih _ (i + 1) ⟨by omega, by omega, v1, nx v (fun k a b => ⟨Or.inl, fun q => ?_⟩)⟩ (by omega)
           rcases q with q | ⟨-, j, j1, j2, j3, j4⟩
           · exact q
           · have hz : iand (rowJ J i) s = 0 := by omega
             have x := an.2 j j1 (by omega)
             rw [hz, bt_0, rj.2 j j1 (by omega), (hJ.2 i j i1 (by omega) j1 (by omega)).mpr ⟨by omega, j2, j4⟩, j3] at x
             cases x)
    · refine ok_iload 13 rfl rfl rfl (ok_iconst 14 rfl rfl (by decide) (ok_iload 15 rfl rfl rfl (ok_ishl 16 rfl rfl (ok_ior 17 rfl rfl (ok_ist4 18 rfl rfl rfl (ok_inc5 19 rfl rfl rfl (by first | omega | (simp [up_if]; omega) | (simp [up_if] at *; omega)) (ok_goto 20 6 rfl rfl rfl ?_)))))))
      first
        | (refine ih _ (i + 1) ⟨by omega, by omega, ob, nx _ (fun k a b => ?_)⟩ (by omega)
           rw [bp, bt_sB' i1 a]
           refine or_congr Iff.rfl ⟨fun q => ⟨q, ?_⟩, fun q => q.1⟩
           have hne : iand (rowJ J i) s ≠ 0 := by omega
           have hx : ∃ c : Int, 0 ≤ c ∧ c < 8 ∧ bt (iand (rowJ J i) s) c = true := by
             refine Classical.byContradiction (fun hno => hne (bt_ext an.1 ⟨by omega, by omega⟩ (fun c a b => ?_)))
             rw [bt_0]
             cases w : bt (iand (rowJ J i) s) c
             · rfl
             · exact absurd ⟨c, a, b, w⟩ hno
           obtain ⟨c, c1, c2, c3⟩ := hx
           rw [an.2 c c1 c2, rj.2 c c1 c2, Bool.and_eq_true] at c3
           obtain ⟨-, q2, q3⟩ := (hJ.2 i c i1 (by omega) c1 c2).mp c3.1
           exact ⟨c, c1, q2, c3.2, q3⟩)
        | (refine ih _ (i + 1) ⟨by omega, by omega, v1, nx v (fun k a b => ⟨Or.inl, fun q => ?_⟩)⟩ (by omega)
           rcases q with q | ⟨-, j, j1, j2, j3, j4⟩
           · exact q
           · have hz : iand (rowJ J i) s = 0 := by omega
             have x := an.2 j j1 (by omega)
             rw [hz, bt_0, rj.2 j j1 (by omega), (hJ.2 i j i1 (by omega) j1 (by omega)).mpr ⟨by omega, j2, j4⟩, j3] at x
             cases x)
theorem t_Jo_groupOf {σ : eS} {J r n : Int} {W : Int → Int → Int} (hn : 0 ≤ n ∧ n ≤ 8) (hr : 0 ≤ r ∧ r < n) (hJ : jOf J n (fun i j => 1 ≤ W i j)) : MtI shA M_Jo_groupOf [vl J, vi r, vi n] σ (fun σ' z => σ' = σ ∧ (0 ≤ z ∧ z < 256) ∧ ∀ c : Int, 0 ≤ c → c < 8 → (bt z c = true ↔ RT n (W2 n W) r c)) := by
  refine Mt.of okM_Jo_groupOf (Nat.le_of_ble_eq_true rfl) (fun hk hg => ?_)
  have o0 := or8 (s := 0) (j := r) ⟨by omega, by omega⟩ ⟨hr.1, by omega⟩
  have p0 := bitP (s := 0) (j := r) ⟨by omega, by omega⟩ ⟨hr.1, by omega⟩
  have i0 : ior 0 (ishl 1 r) = ishl 1 r := ior0 ⟨hr.1, by omega⟩
  rw [i0] at o0 p0
  refine ok_iconst 0 rfl rfl (by decide) (ok_iload_n 1 rfl rfl rfl (ok_ishl 2 rfl rfl (ok_ist4 3 rfl rfl rfl (ok_iconst 4 rfl rfl (by decide) (ok_ist5 5 rfl rfl rfl ?_)))))
  refine lpO2 (fun v i : Int => [some (vl J), none, some (vi r), some (vi n), some (vi v), some (vi i)]) (fun _ _ => σ) (fun v i => 0 ≤ i ∧ i ≤ n ∧ (0 ≤ v ∧ v < 256) ∧ ∀ c : Int, 0 ≤ c → c < 8 → (bt v c = true ↔ RS n (W2 n W) r i.toNat c)) (fun _ i => (8 - i).toNat) ?_ _ 0 ⟨by omega, by omega, o0, fun c a b => by rw [p0, bt_sB' hr.1 a, bt_0]; exact ⟨fun q => by rcases q with q | q; cases q; exact q, fun q => Or.inr q⟩⟩
  rintro v i ⟨i1, i2, v1, v2⟩ ih
  refine ok_iload 6 rfl rfl rfl (ok_iload_n 7 rfl rfl rfl (ok_icmp_ge 8 37 rfl rfl rfl (fun h11 => ?_) (fun h11 => ?_)))
  · refine ok_iload 21 rfl rfl rfl (ok_iret 22 rfl rfl rfl ?_)
    refine ⟨_, rfl, rfl, v1, fun c a b => ?_⟩
    rw [v2 c a b, show i = n by omega]
    exact RS_n hr a
  · refine ok_iload 9 rfl rfl rfl (ok_lload_n 10 rfl rfl rfl (ok_lload_n 11 rfl rfl rfl (ok_iload 12 rfl rfl rfl (ok_iload_n 13 rfl rfl rfl (ok_callSI (M' := M_Jo_columnsOf) (as := [_, _, _]) 14 rfl rfl ml_X1_25 (t_Jo_columnsOf hn v1) ⟨Nat.le_of_ble_eq_true rfl, Nat.le_of_ble_eq_true rfl⟩ rfl (Nat.le_of_ble_eq_true rfl) (fun σ' z hz => ?_))))))
    obtain ⟨hs_, hz⟩ := hz
    rw [hs_]; clear hs_ σ'
    obtain ⟨z1, z2⟩ := cOf_op hn.2 hJ hz
    refine ok_iload_n 15 rfl rfl rfl (ok_callSI (M' := M_Jo_rowsOf) (as := [_, _, _]) 16 rfl rfl ml_X1_34 (t_Jo_rowsOf hn z1 hJ) ⟨Nat.le_of_ble_eq_true rfl, Nat.le_of_ble_eq_true rfl⟩ rfl (Nat.le_of_ble_eq_true rfl) (fun σ' y hy => ?_))
    obtain ⟨hs_, hy⟩ := hy
    rw [hs_]; clear hs_ σ'
    obtain ⟨y1, y2⟩ := hy
    have os := ior_sp v1 y1
    refine ok_ior 17 rfl rfl (ok_ist4 18 rfl rfl rfl (ok_inc5 19 rfl rfl rfl (by first | omega | (simp [up_if]; omega) | (simp [up_if] at *; omega)) (ok_goto 20 8 rfl rfl rfl ?_)))
    refine ih _ (i + 1) ⟨by omega, by omega, os.1, fun c a b => ?_⟩ (by omega)
    rw [os.2 c a b, Bool.or_eq_true, v2 c a b, y2 c a b, show (i + 1).toNat = i.toNat + 1 by omega]
    constructor
    · rintro (q | ⟨q1, j, j1, j2, j3, j4⟩)
      · exact Or.inl q
      · obtain ⟨-, k, k1, k2, k3, k4⟩ := (z2 j j1 (by omega)).mp j3
        exact Or.inr ⟨q1, k, k1, k2, (v2 k k1 (by omega)).mp k3, W2_1.mpr ⟨j, j1, j2, k4, j4⟩⟩
    · rintro (q | ⟨q1, k, k1, k2, k3, k4⟩)
      · exact Or.inl q
      · obtain ⟨j, j1, j2, j3, j4⟩ := W2_1.mp k4
        exact Or.inr ⟨q1, j, j1, j2, (z2 j j1 (by omega)).mpr ⟨j2, k, k1, k2, (v2 k k1 (by omega)).mpr k3, j3⟩, j4⟩
theorem sm_sp (f : Int → Int) (n : Int) (hn : 0 ≤ n ∧ n ≤ 8) (h : ∀ k : Int, n ≤ k → k < 8 → f k = 0) : sm f 8 = sm f n.toNat := by
  have e := sm_add f n.toNat (8 - n.toNat)
  rw [show n.toNat + (8 - n.toNat) = 8 by omega] at e
  rw [e, sm_cg (f := fun k => f ((n.toNat : Int) + k)) (g := fun _ => 0) (fun k a b => h _ (by omega) (by omega))]
  have z : ∀ m : Nat, sm (fun _ => (0 : Int)) m = 0 := fun m => by
    have := sm_bd (f := fun _ => (0 : Int)) (B := 0) (Int.le_refl _) (n := m) (fun k _ _ => ⟨Int.le_refl _, Int.le_refl _⟩)
    omega
  rw [z, Int.add_zero]
theorem t_Jo_countGroups {σ : eS} {J n : Int} {W : Int → Int → Int} (hn : 0 ≤ n ∧ n ≤ 8) (hJ : jOf J n (fun i j => 1 ≤ W i j)) : MtI shA M_Jo_countGroups [vl J, vi n] σ (fun σ' z => σ' = σ ∧ z = gpV n W ∧ 0 ≤ z ∧ z ≤ 16) := by
  refine Mt.of okM_Jo_countGroups (Nat.le_of_ble_eq_true rfl) (fun hk hg => ?_)
  refine ok_iconst 0 rfl rfl (by decide) (ok_ist3 1 rfl rfl rfl (ok_iconst 2 rfl rfl (by decide) (ok_ist4 3 rfl rfl rfl (ok_iconst 4 rfl rfl (by decide) (ok_ist5 5 rfl rfl rfl ?_)))))
  refine lpO3 (fun g v i : Int => [some (vl J), none, some (vi n), some (vi g), some (vi v), some (vi i)]) (fun _ _ _ => σ) (fun g v i => 0 ≤ i ∧ i ≤ n ∧ g = sm (fun r => ind (newR n W r)) i.toNat ∧ (0 ≤ v ∧ v < 256) ∧ ∀ c : Int, 0 ≤ c → c < 8 → (bt v c = true ↔ ∃ k, 0 ≤ k ∧ k < i ∧ RT n (W2 n W) k c)) (fun _ _ i => (8 - i).toNat) ?_ 0 0 0 ⟨by omega, by omega, rfl, ⟨by omega, by omega⟩, fun c a b => by rw [bt_0]; constructor; intro q; cases q; rintro ⟨k, k1, k2, -⟩; omega⟩
  rintro g v i ⟨i1, i2, eg, v1, v2⟩ ih
  have gb := sm_bd (f := fun r => ind (newR n W r)) (B := 1) (by decide) (n := i.toNat) (fun k _ _ => ind_bd _)
  rw [← eg] at gb
  have es := sm_s (fun r => ind (newR n W r)) i1
  refine ok_iload 6 rfl rfl rfl (ok_iload_n 7 rfl rfl rfl (ok_icmp_ge 8 45 rfl rfl rfl (fun h11 => ?_) (fun h11 => ?_)))
  · have ei : i = n := by omega
    refine ok_iload_n 25 rfl rfl rfl (ok_lload_n 26 rfl rfl rfl (ok_iload 27 rfl rfl rfl (ok_iload_n 28 rfl rfl rfl (ok_callSI (M' := M_Jo_columnsOf) (as := [_, _, _]) 29 rfl rfl ml_X1_25 (t_Jo_columnsOf hn v1) ⟨Nat.le_of_ble_eq_true rfl, Nat.le_of_ble_eq_true rfl⟩ rfl (Nat.le_of_ble_eq_true rfl) (fun σ' z hz => ?_)))))
    obtain ⟨hs_, hz⟩ := hz
    rw [hs_]; clear hs_ σ'
    obtain ⟨z1, z2⟩ := cOf_op hn.2 hJ hz
    have pz := (bitL (s := z) (n := 8) z1 (by omega)).2.2
    refine ok_callSI (M' := M_Ji_bitCount) (as := [_]) 30 rfl rfl ml_X1_28 (s_Ji_bitCount) ⟨Nat.le_of_ble_eq_true rfl, Nat.le_of_ble_eq_true rfl⟩ rfl (Nat.le_of_ble_eq_true rfl) (fun σ' z hz => ?_)
    rw [hz.1, hz.2]
    clear hz z σ'
    rw [bcP (s := z) z1]
    refine ok_isub 31 rfl rfl (by first | omega | (simp [up_if]; omega) | (simp [up_if] at *; omega)) (ok_ist5 32 rfl rfl rfl (ok_iload_n 33 rfl rfl rfl (ok_iload 34 rfl rfl rfl (ok_iadd 35 rfl rfl (by first | omega | (simp [up_if]; omega) | (simp [up_if] at *; omega)) (ok_iret 36 rfl rfl rfl ?_)))))
    have hl : n - pc z = sm (fun j => ind (lonC n W j)) n.toNat := by
      have h1 : pc z = sm (fun c => ind (bt z c = true)) n.toNat := by
        rw [pcb z1, ← sm_sp (fun c => ind (bt z c = true)) n hn (fun k a b => ind_f (fun q => by have := (z2 k (by omega) b).mp q; omega))]
        exact sm_cg (fun k a b => by
          by_cases w : bt z k = true
          · rw [if_pos w, ind_t w]
          · rw [if_neg w, ind_f w])
      have h2 : sm (fun j => ind (lonC n W j)) n.toNat = sm (fun c => (fun _ => (1 : Int)) c - ind (bt z c = true)) n.toNat := sm_cg (fun k a b => by
        by_cases w : ∃ r, 0 ≤ r ∧ r < n ∧ 1 ≤ W r k
        · obtain ⟨r, r1, r2, r3⟩ := w
          have hr := (z2 k a (by omega)).mpr ⟨by omega, r, r1, r2, (v2 r r1 (by omega)).mpr ⟨r, r1, by omega, 0, rfl⟩, r3⟩
          rw [ind_f (p := lonC n W k) (fun q => q ⟨r, r1, r2, r3⟩), ind_t hr]; rfl
        · rw [ind_t (p := lonC n W k) w, ind_f (fun q => by obtain ⟨-, r, r1, r2, -, r3⟩ := (z2 k a (by omega)).mp q; exact w ⟨r, r1, r2, r3⟩)]; rfl)
      have h3 : ∀ m : Nat, sm (fun _ => (1 : Int)) m = m := fun m => by
        induction m with
        | zero => rfl
        | succ m e => have := sm_s (fun _ => (1 : Int)) (j := (m : Int)) (by omega); rw [show ((m : Int) + 1).toNat = m + 1 by omega, show ((m : Int)).toNat = m by omega] at this; rw [this, e]; omega
      rw [h2, sm_sub, h3, h1]; omega
    have lb := sm_bd (f := fun j => ind (lonC n W j)) (B := 1) (by decide) (n := n.toNat) (fun k _ _ => ind_bd _)
    refine ⟨_, rfl, rfl, ?_, by omega, by omega⟩
    unfold gpV
    rw [← hl, eg, ei]
  · have bz := b_nz (s := v) (j := i) v1 ⟨i1, by omega⟩
    refine ok_iload 9 rfl rfl rfl (ok_iload 10 rfl rfl rfl (ok_ishr 11 rfl rfl (ok_iconst 12 rfl rfl (by decide) (ok_iand 13 rfl rfl (ok_if_ne 14 39 rfl rfl rfl (fun h21 => ?_) (fun h21 => ?_))))))
    · refine ok_inc5 23 rfl rfl rfl (by first | omega | (simp [up_if]; omega) | (simp [up_if] at *; omega)) (ok_goto 24 8 rfl rfl rfl ?_)
      have hv := bz.1.mp (by omega)
      obtain ⟨k, k1, k2, k3⟩ := (v2 i i1 (by omega)).mp hv
      refine ih _ _ (i + 1) ⟨by omega, by omega, ?_, v1, fun c a b => ?_⟩ (by omega)
      · rw [es, eg, ind_f (p := newR n W i) (fun q => q ⟨k, k1, k2, k3⟩), Int.add_zero]
      · rw [v2 c a b]
        constructor
        · rintro ⟨x, x1, x2, x3⟩; exact ⟨x, x1, by omega, x3⟩
        · rintro ⟨x, x1, x2, x3⟩
          by_cases w : x = i
          · subst w
            obtain ⟨m, hm⟩ := x3
            exact ⟨k, k1, k2, RT_tr k3 m c hm⟩
          · exact ⟨x, x1, by omega, x3⟩
    · refine ok_iload 15 rfl rfl rfl (ok_lload_n 16 rfl rfl rfl (ok_iload 17 rfl rfl rfl (ok_iload_n 18 rfl rfl rfl (ok_callSI (M' := M_Jo_groupOf) (as := [_, _, _]) 19 rfl rfl ml_X1_21 (t_Jo_groupOf hn ⟨i1, by omega⟩ hJ) ⟨Nat.le_of_ble_eq_true rfl, Nat.le_of_ble_eq_true rfl⟩ rfl (Nat.le_of_ble_eq_true rfl) (fun σ' z hz => ?_)))))
      obtain ⟨hs_, hz⟩ := hz
      rw [hs_]; clear hs_ σ'
      obtain ⟨z1, z2⟩ := hz
      have os := ior_sp v1 z1
      refine ok_ior 20 rfl rfl (ok_ist4 21 rfl rfl rfl (ok_inc3 22 rfl rfl rfl (by first | omega | (simp [up_if]; omega) | (simp [up_if] at *; omega)) (ok_inc5 23 rfl rfl rfl (by first | omega | (simp [up_if]; omega) | (simp [up_if] at *; omega)) (ok_goto 24 8 rfl rfl rfl ?_))))
      have hv := bz.2.mp (by omega)
      refine ih _ _ (i + 1) ⟨by omega, by omega, ?_, os.1, fun c a b => ?_⟩ (by omega)
      · rw [es, eg, ind_t (p := newR n W i) (fun q => by rw [(v2 i i1 (by omega)).mpr q] at hv; cases hv)]
      · rw [os.2 c a b, Bool.or_eq_true, v2 c a b, z2 c a b]
        constructor
        · rintro (⟨x, x1, x2, x3⟩ | q)
          · exact ⟨x, x1, by omega, x3⟩
          · exact ⟨i, i1, by omega, q⟩
        · rintro ⟨x, x1, x2, x3⟩
          by_cases w : x = i
          · subst w; exact Or.inr x3
          · exact Or.inl ⟨x, x1, by omega, x3⟩
end
section
/-! GROUPS by labels -/
def ndx (n x : Int) : Prop := (0 ≤ x ∧ x < n) ∨ (8 ≤ x ∧ x < 8 + n)
def cloP (n : Int) (W : Int → Int → Int) (P : Int → Prop) : Prop := ∀ r k j, 0 ≤ r → r < n → 0 ≤ k → k < n → 0 ≤ j → j < n → 1 ≤ W r j → 1 ≤ W k j → P r → P k
def XX (n : Int) (W : Int → Int → Int) (P : Int → Prop) (x : Int) : Prop := (x < 8 ∧ P x) ∨ (8 ≤ x ∧ ∃ r, 0 ≤ r ∧ r < n ∧ 1 ≤ W r (x - 8) ∧ P r)
def lbI (n : Int) (W : Int → Int → Int) (lab : Int → Int) (D : Int → Int → Prop) : Prop :=
  (∀ k, 0 ≤ k → k < n → 0 ≤ lab k ∧ lab k < n ∧ lab (lab k) = lab k) ∧
  (∀ j, 0 ≤ j → j < n → lab (8 + j) = 8 + j ∨ (0 ≤ lab (8 + j) ∧ lab (8 + j) < n ∧ ∃ r, 0 ≤ r ∧ r < n ∧ 1 ≤ W r j)) ∧
  (∀ i j, 0 ≤ i → i < n → 0 ≤ j → j < n → D i j → 1 ≤ W i j → lab i = lab (8 + j)) ∧
  (∀ P : Int → Prop, cloP n W P → ∀ x y, ndx n x → ndx n y → lab x = lab y → (XX n W P x ↔ XX n W P y))
section K14
variable {n : Int} {W : Int → Int → Int} {lab lab' : Int → Int} {D D' : Int → Int → Prop}
theorem lbI_0 (hn : 0 ≤ n ∧ n ≤ 8) (h : ∀ x, 0 ≤ x → x < 16 → lab x = x) (hD : ∀ i j, 0 ≤ i → i < n → 0 ≤ j → j < n → ¬ D i j) : lbI n W lab D := by
  refine ⟨fun k a b => ?_, fun j a b => Or.inl (h _ (by omega) (by omega)), fun i j a b c d e => absurd e (hD i j a b c d), fun P _ x y hx hy e => ?_⟩
  · rw [h k a (by omega), h k a (by omega)]; exact ⟨a, b, rfl⟩
  · unfold ndx at hx hy
    rw [h x (by omega) (by omega), h y (by omega) (by omega)] at e
    rw [e]
theorem lbI_w (h : lbI n W lab D) (hD : ∀ i j, 0 ≤ i → i < n → 0 ≤ j → j < n → D' i j → 1 ≤ W i j → D i j ∨ lab i = lab (8 + j)) : lbI n W lab D' :=
  ⟨h.1, h.2.1, fun i j a b c d e f => by
    rcases hD i j a b c d e f with q | q
    · exact h.2.2.1 i j a b c d q f
    · exact q, h.2.2.2⟩
theorem lbI_m {i j : Int} (hn : 0 ≤ n ∧ n ≤ 8) (h : lbI n W lab D) (hi : 0 ≤ i ∧ i < n) (hj : 0 ≤ j ∧ j < n) (hw : 1 ≤ W i j) (hne : lab (8 + j) ≠ lab i) (hl : ∀ x, 0 ≤ x → x < 16 → lab' x = if lab x = lab (8 + j) then lab i else lab x) : lbI n W lab' (fun a b => D a b ∨ (a = i ∧ b = j)) := by
  obtain ⟨g, eg⟩ : ∃ g, g = lab (8 + j) := ⟨_, rfl⟩
  obtain ⟨m, em⟩ : ∃ m, m = lab i := ⟨_, rfl⟩
  rw [← eg, ← em] at hne
  have hl : ∀ x, 0 ≤ x → x < 16 → lab' x = if lab x = g then m else lab x := fun x a b => by rw [hl x a b, eg, em]
  obtain ⟨h1, h2, h3, h4⟩ := h
  obtain ⟨m1, m2, m3⟩ := h1 i hi.1 hi.2
  rw [← em] at m1 m2 m3
  refine ⟨fun k a b => ?_, fun k a b => ?_, fun a b a1 a2 b1 b2 hd hw2 => ?_, fun P hP x y hx hy e => ?_⟩
  · obtain ⟨k1, k2, k3⟩ := h1 k a b
    rw [hl k a (by omega)]
    by_cases w : lab k = g
    · rw [if_pos w, hl m m1 (by omega), m3, if_neg (fun q => hne q.symm)]
      exact ⟨m1, m2, rfl⟩
    · rw [if_neg w, hl (lab k) k1 (by omega), k3, if_neg w]
      exact ⟨k1, k2, rfl⟩
  · rw [hl (8 + k) (by omega) (by omega)]
    by_cases w : lab (8 + k) = g
    · rw [if_pos w]
      refine Or.inr ⟨m1, m2, ?_⟩
      rcases h2 k a b with q | q
      · rcases h2 j hj.1 hj.2 with u | u
        · rw [← eg] at u
          have : k = j := by omega
          rw [this]; exact ⟨i, hi.1, hi.2, hw⟩
        · rw [← eg] at u; omega
      · exact q.2.2
    · rw [if_neg w]; exact h2 k a b
  · rw [hl a a1 (by omega), hl (8 + b) (by omega) (by omega)]
    rcases hd with hd | ⟨u, v⟩
    · rw [h3 a b a1 a2 b1 b2 hd hw2]
    · subst u; subst v
      rw [← eg, if_pos rfl, ← em, if_neg (fun q => hne q.symm)]
  · have hX : XX n W P i ↔ XX n W P (8 + j) := by
      unfold XX
      constructor
      · rintro (⟨-, q⟩ | ⟨q, -⟩)
        · exact Or.inr ⟨by omega, i, hi.1, hi.2, by rw [show 8 + j - 8 = j by omega]; exact hw, q⟩
        · omega
      · rintro (⟨q, -⟩ | ⟨-, r, r1, r2, r3, r4⟩)
        · omega
        · rw [show 8 + j - 8 = j by omega] at r3
          exact Or.inl ⟨by omega, hP r i j r1 r2 hi.1 hi.2 hj.1 hj.2 r3 hw r4⟩
    have key : ∀ z, ndx n z → (lab z = g → (XX n W P z ↔ XX n W P i)) ∧ (lab z = m → (XX n W P z ↔ XX n W P i)) := fun z hz => ⟨fun q => (h4 P hP z (8 + j) hz (Or.inr ⟨by omega, by omega⟩) (by rw [q, eg])).trans hX.symm, fun q => h4 P hP z i hz (Or.inl hi) (by rw [q, em])⟩
    have hx' := hx
    have hy' := hy
    unfold ndx at hx' hy'
    rw [hl x (by omega) (by omega), hl y (by omega) (by omega)] at e
    by_cases u : lab x = g <;> by_cases v : lab y = g
    · exact ((key x hx).1 u).trans ((key y hy).1 v).symm
    · rw [if_pos u, if_neg v] at e
      exact ((key x hx).1 u).trans ((key y hy).2 e.symm).symm
    · rw [if_neg u, if_pos v] at e
      exact ((key x hx).2 e).trans ((key y hy).1 v).symm
    · rw [if_neg u, if_neg v] at e
      exact h4 P hP x y hx hy e
theorem cnt_first {L : Int → Int} (hL : ∀ r, 0 ≤ r → r < n → 0 ≤ L r ∧ L r < n) : ∀ m : Nat, (m : Int) ≤ n → sm (fun r => ind (¬ ∃ k, 0 ≤ k ∧ k < r ∧ L k = L r)) m = sm (fun v => ind (∃ r, 0 ≤ r ∧ r < (m : Int) ∧ L r = v)) n.toNat
  | 0, _ => by
    have x : sm (fun v => ind (∃ r, 0 ≤ r ∧ r < ((0 : Nat) : Int) ∧ L r = v)) n.toNat = sm (fun _ => (0 : Int)) n.toNat := sm_cg (fun v a b => ind_f (fun ⟨r, r1, r2, _⟩ => by omega))
    have := sm_bd (f := fun _ => (0 : Int)) (B := 0) (Int.le_refl _) (n := n.toNat) (fun k _ _ => ⟨Int.le_refl _, Int.le_refl _⟩)
    rw [x]
    show (0 : Int) = _
    omega
  | m + 1, hm => by
    have ih := cnt_first hL m (by omega)
    have es := sm_s (fun r => ind (¬ ∃ k, 0 ≤ k ∧ k < r ∧ L k = L r)) (j := (m : Int)) (by omega)
    rw [show ((m : Int) + 1).toNat = m + 1 by omega, show ((m : Int)).toNat = m by omega] at es
    obtain ⟨l1, l2⟩ := hL (m : Int) (by omega) (by omega)
    rw [es, ih]
    by_cases w : ∃ k, 0 ≤ k ∧ k < (m : Int) ∧ L k = L m
    · rw [ind_f (fun q => q w), Int.add_zero]
      refine sm_cg (fun v a b => ind_cg ⟨fun ⟨r, r1, r2, r3⟩ => ⟨r, r1, by omega, r3⟩, fun ⟨r, r1, r2, r3⟩ => ?_⟩)
      by_cases u : r = (m : Int)
      · obtain ⟨k, k1, k2, k3⟩ := w
        exact ⟨k, k1, k2, by rw [k3, ← u, r3]⟩
      · exact ⟨r, r1, by omega, r3⟩
    · rw [ind_t w]
      refine (sm_pt (x := L m) (d := 1) l1 (by omega) ?_ (fun v a b hv => ?_)).symm
      · rw [ind_t ⟨(m : Int), by omega, by omega, rfl⟩, ind_f (fun ⟨r, r1, r2, r3⟩ => w ⟨r, r1, r2, r3⟩)]; rfl
      · refine ind_cg ⟨fun ⟨r, r1, r2, r3⟩ => ⟨r, r1, ?_, r3⟩, fun ⟨r, r1, r2, r3⟩ => ⟨r, r1, by omega, r3⟩⟩
        have : r ≠ (m : Int) := fun q => hv (by rw [← r3, q])
        omega
theorem lbI_RT (hn : 0 ≤ n ∧ n ≤ 8) (h : lbI n W lab (fun _ _ => True)) {r k : Int} (hr : 0 ≤ r ∧ r < n) (hk : 0 ≤ k ∧ k < n) : RT n (W2 n W) r k ↔ lab r = lab k := by
  constructor
  · rintro ⟨m, hm⟩
    have go : ∀ (m : Nat) (c : Int), 0 ≤ c → c < n → RS n (W2 n W) r m c → lab r = lab c := fun m => by
      induction m with
      | zero => intro c _ _ q; have q : c = r := q; rw [q]
      | succ m e =>
        intro c c1 c2 q
        rcases q with q | ⟨q1, x, q2, q3, q4, q5⟩
        · exact e c c1 c2 q
        · obtain ⟨j, j1, j2, j3, j4⟩ := W2_1.mp q5
          rw [e x q2 q3 q4, h.2.2.1 x j q2 q3 j1 j2 trivial j3, h.2.2.1 c j c1 c2 j1 j2 trivial j4]
    exact go m k hk.1 hk.2 hm
  · intro e
    have cl : cloP n W (fun c => RT n (W2 n W) r c) := fun a b j a1 a2 b1 b2 j1 j2 wa wb ⟨m, hm⟩ => ⟨m + 1, Or.inr ⟨b2, a, a1, a2, hm, W2_1.mpr ⟨j, j1, j2, wa, wb⟩⟩⟩
    have x := (h.2.2.2 _ cl r k (Or.inl hr) (Or.inl hk) e).mp (Or.inl ⟨by omega, ⟨0, rfl⟩⟩)
    rcases x with x | x
    · exact x.2
    · omega
theorem lbI_gp (hn : 0 ≤ n ∧ n ≤ 8) (h : lbI n W lab (fun _ _ => True)) : sm (fun k => ind (lab k = k)) n.toNat + sm (fun k => ind (lab (8 + k) = 8 + k)) n.toNat = gpV n W := by
  unfold gpV
  have e1 : sm (fun r => ind (newR n W r)) n.toNat = sm (fun k => ind (lab k = k)) n.toNat := by
    rw [sm_cg (g := fun r => ind (¬ ∃ k, 0 ≤ k ∧ k < r ∧ lab k = lab r)) (fun r a b => ?_), cnt_first (fun r a b => ⟨(h.1 r a b).1, (h.1 r a b).2.1⟩) n.toNat (by omega)]
    · refine sm_cg (fun v a b => ind_cg ⟨fun ⟨r, r1, r2, r3⟩ => ?_, fun q => ⟨v, a, b, q⟩⟩)
      rw [← r3]; exact (h.1 r r1 (by omega)).2.2
    · refine ind_cg (not_congr ⟨fun ⟨k, k1, k2, k3⟩ => ⟨k, k1, k2, (lbI_RT hn h ⟨k1, by omega⟩ ⟨a, by omega⟩).mp k3⟩, fun ⟨k, k1, k2, k3⟩ => ⟨k, k1, k2, (lbI_RT hn h ⟨k1, by omega⟩ ⟨a, by omega⟩).mpr k3⟩⟩)
  have e2 : sm (fun j => ind (lonC n W j)) n.toNat = sm (fun k => ind (lab (8 + k) = 8 + k)) n.toNat := sm_cg (fun k a b => ind_cg ⟨fun q => by
    rcases h.2.1 k a (by omega) with u | u
    · exact u
    · exact absurd u.2.2 q, fun q ⟨r, r1, r2, r3⟩ => by
    have x := h.2.2.1 r k r1 r2 a (by omega) trivial r3
    have y := h.1 r r1 r2
    omega⟩)
  rw [e1, e2]
end K14
theorem t_Mo_groupsOf {σ : eS} {s : Int} (hB : iB1 σ) (hs : 0 ≤ s ∧ s < 4) : MtI shB M_Mo_groupsOf [vr 0, vi s] σ (fun σ' z => fr (fun c _ => c = 8) σ σ' ∧ z = gpV (σ 1 s) (cB σ s)) := by
  refine Mt.of okM_Mo_groupsOf (Nat.le_of_ble_eq_true rfl) (fun hk hg => ?_)
  obtain ⟨n, en⟩ : ∃ x, x = σ 1 s := ⟨_, rfl⟩
  obtain ⟨W, eW⟩ : ∃ W, W = cB σ s := ⟨_, rfl⟩
  obtain ⟨g1, g2, -⟩ := hB.1 s hs.1 hs.2
  rw [← en] at g1 g2
  rw [← en, ← eW]
  have hF : ∀ τ : eS, fr (fun c _ => c = 8) σ τ → iB1 τ ∧ τ 1 s = n ∧ cB τ s = W := fun τ f => ⟨hB.fr (fun c k q => f c k (by omega)), by rw [f 1 s (by omega), en], by rw [eW]; funext i j; unfold cB; rw [f 1 s (by omega), f 3 _ (by omega)]⟩
  have hW : ∀ i j, 0 ≤ i → i < n → 0 ≤ j → j < n → 0 ≤ W i j := fun i j a b c d => by rw [eW]; exact (cB_bd hB hs ⟨a, by omega⟩ ⟨c, by omega⟩).1
  refine ok_aload_n 0 rfl rfl rfl (ok_getR 1 rfl rfl fl_X12_7 rfl rfl (ok_iload_n 2 rfl rfl rfl (ok_iald 3 rfl rfl rfl (by first | omega | (simp [up_if]; omega) | (simp [up_if] at *; omega)) (ok_ist2 4 rfl rfl rfl (ok_iconst 5 rfl rfl (by decide) (ok_ist3 6 rfl rfl rfl ?_))))))
  rw [← en]
  refine lpO2 (fun (k : Int) (_ : eS) => [some (vr 0), some (vi s), some (vi n), some (vi k), none, none, none]) (fun _ τ => τ) (fun k τ => 0 ≤ k ∧ k ≤ 16 ∧ fr (fun c _ => c = 8) σ τ ∧ ∀ x, 0 ≤ x → x < k → τ 8 x = x) (fun k _ => (16 - k).toNat) ?_ 0 σ ⟨by omega, by omega, fr.rf, fun x a b => by omega⟩
  rintro k τ ⟨i1, i2, i3, i4⟩ ih
  refine ok_iload_n 7 rfl rfl rfl (ok_bipush 8 rfl rfl (by decide) (by decide) (ok_icmp_ge 9 28 rfl rfl rfl (fun h12 => ?_) (fun h12 => ?_)))
  · refine ok_iconst 17 rfl rfl (by decide) (ok_ist3 18 rfl rfl rfl ?_)
    have h0 : lbI n W (τ 8) (fun a _ => a < 0) := lbI_0 ⟨g1, g2⟩ (fun x a b => i4 x a (by omega)) (fun i j a b c d q => by omega)
    clear ih i1 i2 i4 h12
    refine lpO2 (fun (i : Int) (_ : eS) => [some (vr 0), some (vi s), some (vi n), some (vi i), none, none, none]) (fun _ τ => τ) (fun i τ => 0 ≤ i ∧ i ≤ n ∧ fr (fun c _ => c = 8) σ τ ∧ lbI n W (τ 8) (fun a _ => a < i)) (fun i _ => (n - i).toNat) ?_ 0 τ ⟨by omega, by omega, i3, h0⟩
    clear i3 h0 τ k
    rintro i τ ⟨i1, i2, i3, i4⟩ ih
    refine ok_iload_n 19 rfl rfl rfl (ok_iload_n 20 rfl rfl rfl (ok_icmp_ge 21 134 rfl rfl rfl (fun h32 => ?_) (fun h32 => ?_)))
    · refine ok_iconst 72 rfl rfl (by decide) (ok_ist3 73 rfl rfl rfl (ok_iconst 74 rfl rfl (by decide) (ok_ist4 75 rfl rfl rfl ?_)))
      have hl : lbI n W (τ 8) (fun _ _ => True) := lbI_w i4 (fun a b _ _ _ _ _ _ => Or.inl (by omega))
      have hg := lbI_gp ⟨g1, g2⟩ hl
      clear ih i1 i2 h32 i4
      refine lpO2 (fun (a k : Int) => [some (vr 0), some (vi s), some (vi n), some (vi a), some (vi k), none, none]) (fun _ _ => τ) (fun a k => 0 ≤ k ∧ k ≤ n ∧ a = sm (fun k => ind (τ 8 k = k)) k.toNat + sm (fun k => ind (τ 8 (8 + k) = 8 + k)) k.toNat ∧ 0 ≤ a ∧ a ≤ 2 * k) (fun _ k => (n - k).toNat) ?_ 0 0 ⟨by omega, by omega, rfl, by omega, by omega⟩
      rintro a k ⟨k1, k2, k5, k3, k4⟩ ih
      have s1 := sm_s (fun k => ind (τ 8 k = k)) k1
      have s2 := sm_s (fun k => ind (τ 8 (8 + k) = 8 + k)) k1
      refine ok_iload 76 rfl rfl rfl (ok_iload_n 77 rfl rfl rfl (ok_icmp_ge 78 201 rfl rfl rfl (fun h142 => ?_) (fun h142 => ?_)))
      · refine ok_iload_n 109 rfl rfl rfl (ok_iret 110 rfl rfl rfl ?_)
        exact ⟨_, rfl, i3, by rw [k5, show k = n by omega]; exact hg⟩
      · refine ok_iload_n 79 rfl rfl rfl (ok_aload_n 80 rfl rfl rfl (ok_getR 81 rfl rfl fl_X12_36 rfl rfl (ok_iload 82 rfl rfl rfl (ok_iald 83 rfl rfl rfl (by first | omega | (simp [up_if]; omega) | (simp [up_if] at *; omega)) (ok_iload 84 rfl rfl rfl (ok_icmp_ne 85 162 rfl rfl rfl (fun h155 => ?_) (fun h155 => ?_)))))))
        · refine ok_iconst 88 rfl rfl (by decide) (ok_callSI (M' := M_Mo_one) (as := [_]) 89 rfl rfl ml_X12_192 (s_Mo_one) ⟨Nat.le_of_ble_eq_true rfl, Nat.le_of_ble_eq_true rfl⟩ rfl (Nat.le_of_ble_eq_true rfl) (fun σ' z1 hz1 => ?_))
          obtain ⟨hs_, hz1⟩ := hz1
          rw [hs_]; clear hs_ σ'
          have q1 : z1 = ind (τ 8 k = k) := by
            rw [hz1]
            first | (rw [ind_t (by omega)]; rfl) | (rw [ind_f (by omega)]; rfl)
          have q1b := ind_bd (τ 8 k = k)
          refine ok_aload_n 90 rfl rfl rfl (ok_getR 91 rfl rfl fl_X12_36 rfl rfl (ok_bipush 92 rfl rfl (by decide) (by decide) (ok_iload 93 rfl rfl rfl (ok_iadd 94 rfl rfl (by first | omega | (simp [up_if]; omega) | (simp [up_if] at *; omega)) (ok_iald 95 rfl rfl rfl (by first | omega | (simp [up_if]; omega) | (simp [up_if] at *; omega)) (ok_bipush 96 rfl rfl (by decide) (by decide) (ok_iload 97 rfl rfl rfl (ok_iadd 98 rfl rfl (by first | omega | (simp [up_if]; omega) | (simp [up_if] at *; omega)) (ok_icmp_ne 99 188 rfl rfl rfl (fun h181 => ?_) (fun h181 => ?_))))))))))
          · refine ok_iconst 102 rfl rfl (by decide) (ok_callSI (M' := M_Mo_one) (as := [_]) 103 rfl rfl ml_X12_192 (s_Mo_one) ⟨Nat.le_of_ble_eq_true rfl, Nat.le_of_ble_eq_true rfl⟩ rfl (Nat.le_of_ble_eq_true rfl) (fun σ' z2 hz2 => ?_))
            obtain ⟨hs_, hz2⟩ := hz2
            rw [hs_]; clear hs_ σ'
            have q2 : z2 = ind (τ 8 (8 + k) = 8 + k) := by
              rw [hz2]
              first | (rw [ind_t (by omega)]; rfl) | (rw [ind_f (by omega)]; rfl)
            have q2b := ind_bd (τ 8 (8 + k) = 8 + k)
            refine ok_iadd 104 rfl rfl (by first | omega | (simp [up_if]; omega) | (simp [up_if] at *; omega)) (ok_iadd 105 rfl rfl (by first | omega | (simp [up_if]; omega) | (simp [up_if] at *; omega)) (ok_ist3 106 rfl rfl rfl (ok_inc4 107 rfl rfl rfl (by first | omega | (simp [up_if]; omega) | (simp [up_if] at *; omega)) (ok_goto 108 139 rfl rfl rfl ?_))))
            exact ih _ (k + 1) ⟨by omega, by omega, by rw [s1, s2, k5, q1, q2]; omega, by omega, by omega⟩ (by omega)
          · refine ok_iconst 100 rfl rfl (by decide) (ok_goto 101 189 rfl rfl rfl (ok_callSI (M' := M_Mo_one) (as := [_]) 103 rfl rfl ml_X12_192 (s_Mo_one) ⟨Nat.le_of_ble_eq_true rfl, Nat.le_of_ble_eq_true rfl⟩ rfl (Nat.le_of_ble_eq_true rfl) (fun σ' z2 hz2 => ?_)))
            obtain ⟨hs_, hz2⟩ := hz2
            rw [hs_]; clear hs_ σ'
            have q2 : z2 = ind (τ 8 (8 + k) = 8 + k) := by
              rw [hz2]
              first | (rw [ind_t (by omega)]; rfl) | (rw [ind_f (by omega)]; rfl)
            have q2b := ind_bd (τ 8 (8 + k) = 8 + k)
            refine ok_iadd 104 rfl rfl (by first | omega | (simp [up_if]; omega) | (simp [up_if] at *; omega)) (ok_iadd 105 rfl rfl (by first | omega | (simp [up_if]; omega) | (simp [up_if] at *; omega)) (ok_ist3 106 rfl rfl rfl (ok_inc4 107 rfl rfl rfl (by first | omega | (simp [up_if]; omega) | (simp [up_if] at *; omega)) (ok_goto 108 139 rfl rfl rfl ?_))))
            exact ih _ (k + 1) ⟨by omega, by omega, by rw [s1, s2, k5, q1, q2]; omega, by omega, by omega⟩ (by omega)
        · refine ok_iconst 86 rfl rfl (by decide) (ok_goto 87 163 rfl rfl rfl (ok_callSI (M' := M_Mo_one) (as := [_]) 89 rfl rfl ml_X12_192 (s_Mo_one) ⟨Nat.le_of_ble_eq_true rfl, Nat.le_of_ble_eq_true rfl⟩ rfl (Nat.le_of_ble_eq_true rfl) (fun σ' z1 hz1 => ?_)))
          obtain ⟨hs_, hz1⟩ := hz1
          rw [hs_]; clear hs_ σ'
          have q1 : z1 = ind (τ 8 k = k) := by
            rw [hz1]
            first | (rw [ind_t (by omega)]; rfl) | (rw [ind_f (by omega)]; rfl)
          have q1b := ind_bd (τ 8 k = k)
          refine ok_aload_n 90 rfl rfl rfl (ok_getR 91 rfl rfl fl_X12_36 rfl rfl (ok_bipush 92 rfl rfl (by decide) (by decide) (ok_iload 93 rfl rfl rfl (ok_iadd 94 rfl rfl (by first | omega | (simp [up_if]; omega) | (simp [up_if] at *; omega)) (ok_iald 95 rfl rfl rfl (by first | omega | (simp [up_if]; omega) | (simp [up_if] at *; omega)) (ok_bipush 96 rfl rfl (by decide) (by decide) (ok_iload 97 rfl rfl rfl (ok_iadd 98 rfl rfl (by first | omega | (simp [up_if]; omega) | (simp [up_if] at *; omega)) (ok_icmp_ne 99 188 rfl rfl rfl (fun h181 => ?_) (fun h181 => ?_))))))))))
          · refine ok_iconst 102 rfl rfl (by decide) (ok_callSI (M' := M_Mo_one) (as := [_]) 103 rfl rfl ml_X12_192 (s_Mo_one) ⟨Nat.le_of_ble_eq_true rfl, Nat.le_of_ble_eq_true rfl⟩ rfl (Nat.le_of_ble_eq_true rfl) (fun σ' z2 hz2 => ?_))
            obtain ⟨hs_, hz2⟩ := hz2
            rw [hs_]; clear hs_ σ'
            have q2 : z2 = ind (τ 8 (8 + k) = 8 + k) := by
              rw [hz2]
              first | (rw [ind_t (by omega)]; rfl) | (rw [ind_f (by omega)]; rfl)
            have q2b := ind_bd (τ 8 (8 + k) = 8 + k)
            refine ok_iadd 104 rfl rfl (by first | omega | (simp [up_if]; omega) | (simp [up_if] at *; omega)) (ok_iadd 105 rfl rfl (by first | omega | (simp [up_if]; omega) | (simp [up_if] at *; omega)) (ok_ist3 106 rfl rfl rfl (ok_inc4 107 rfl rfl rfl (by first | omega | (simp [up_if]; omega) | (simp [up_if] at *; omega)) (ok_goto 108 139 rfl rfl rfl ?_))))
            exact ih _ (k + 1) ⟨by omega, by omega, by rw [s1, s2, k5, q1, q2]; omega, by omega, by omega⟩ (by omega)
          · refine ok_iconst 100 rfl rfl (by decide) (ok_goto 101 189 rfl rfl rfl (ok_callSI (M' := M_Mo_one) (as := [_]) 103 rfl rfl ml_X12_192 (s_Mo_one) ⟨Nat.le_of_ble_eq_true rfl, Nat.le_of_ble_eq_true rfl⟩ rfl (Nat.le_of_ble_eq_true rfl) (fun σ' z2 hz2 => ?_)))
            obtain ⟨hs_, hz2⟩ := hz2
            rw [hs_]; clear hs_ σ'
            have q2 : z2 = ind (τ 8 (8 + k) = 8 + k) := by
              rw [hz2]
              first | (rw [ind_t (by omega)]; rfl) | (rw [ind_f (by omega)]; rfl)
            have q2b := ind_bd (τ 8 (8 + k) = 8 + k)
            refine ok_iadd 104 rfl rfl (by first | omega | (simp [up_if]; omega) | (simp [up_if] at *; omega)) (ok_iadd 105 rfl rfl (by first | omega | (simp [up_if]; omega) | (simp [up_if] at *; omega)) (ok_ist3 106 rfl rfl rfl (ok_inc4 107 rfl rfl rfl (by first | omega | (simp [up_if]; omega) | (simp [up_if] at *; omega)) (ok_goto 108 139 rfl rfl rfl ?_))))
            exact ih _ (k + 1) ⟨by omega, by omega, by rw [s1, s2, k5, q1, q2]; omega, by omega, by omega⟩ (by omega)
    · refine ok_iconst 22 rfl rfl (by decide) (ok_ist4 23 rfl rfl rfl ?_)
      refine lpO2 (fun (j : Int) (_ : eS) => [some (vr 0), some (vi s), some (vi n), some (vi i), some (vi j), none, none]) (fun _ τ => τ) (fun j τ => 0 ≤ j ∧ j ≤ n ∧ fr (fun c _ => c = 8) σ τ ∧ lbI n W (τ 8) (fun a b => a < i ∨ (a = i ∧ b < j))) (fun j _ => (n - j).toNat) ?_ 0 τ ⟨by omega, by omega, i3, lbI_w i4 (fun a b _ _ _ _ q _ => Or.inl (by omega))⟩
      clear i3 i4 τ
      rintro j τ ⟨j1, j2, i3, i4⟩ ih2
      obtain ⟨b1, b2, b3⟩ := hF τ i3
      have back : ∀ (τ : eS) (x y : Option eV), fr (fun c _ => c = 8) σ τ → j < n → lbI n W (τ 8) (fun a b => (a < i ∨ (a = i ∧ b < j)) ∨ (a = i ∧ b = j)) → Ok shB M_Mo_groupsOf 122 [some (vr 0), some (vi s), some (vi n), some (vi i), some (vi j), x, y] [] τ (fun σ' v => ∃ z, v = some (vi z) ∧ fr (fun c _ => c = 8) σ σ' ∧ z = gpV n W) := by
        intro τ x y f hj hl
        refine ok_inc4 68 rfl rfl rfl (by first | omega | (simp [up_if]; omega) | (simp [up_if] at *; omega)) (ok_goto 69 38 rfl rfl rfl ?_)
        exact ok_fg [some (vr 0), some (vi s), some (vi n), some (vi i), some (vi (j + 1)), none, none] ⟨rfl, rfl, rfl, rfl, rfl, trivial⟩ (ih2 (j + 1) τ ⟨by omega, by omega, f, lbI_w hl (fun a b _ _ _ _ q _ => Or.inl (by omega))⟩ (by omega))
      refine ok_iload 24 rfl rfl rfl (ok_iload_n 25 rfl rfl rfl (ok_icmp_ge 26 128 rfl rfl rfl (fun h41 => ?_) (fun h41 => ?_)))
      · refine ok_inc3 70 rfl rfl rfl (by first | omega | (simp [up_if]; omega) | (simp [up_if] at *; omega)) (ok_goto 71 30 rfl rfl rfl ?_)
        exact ok_fg [some (vr 0), some (vi s), some (vi n), some (vi (i + 1)), none, none, none] ⟨rfl, rfl, rfl, rfl, trivial⟩ (ih (i + 1) τ ⟨by omega, by omega, i3, lbI_w i4 (fun a b _ _ _ _ q _ => Or.inl (by omega))⟩ (by omega))
      · refine ok_aload_n 27 rfl rfl rfl (ok_getR 28 rfl rfl fl_X12_36 rfl rfl (ok_bipush 29 rfl rfl (by decide) (by decide) (ok_iload 30 rfl rfl rfl (ok_iadd 31 rfl rfl (by first | omega | (simp [up_if]; omega) | (simp [up_if] at *; omega)) (ok_iald 32 rfl rfl rfl (by first | omega | (simp [up_if]; omega) | (simp [up_if] at *; omega)) (ok_ist5 33 rfl rfl rfl (ok_aload_n 34 rfl rfl rfl (ok_iload_n 35 rfl rfl rfl (ok_iload_n 36 rfl rfl rfl (ok_iload 37 rfl rfl rfl (ok_callVI (M' := M_Mo_at) (as := [_, _, _]) 38 rfl rfl ml_X12_107 (s_Mo_at b1 hs ⟨by omega, by omega⟩ ⟨by omega, by omega⟩) rfl rfl (Nat.le_of_ble_eq_true rfl) ⟨Nat.le_of_ble_eq_true rfl, Nat.le_of_ble_eq_true rfl⟩ rfl (Nat.le_of_ble_eq_true rfl) (fun σ' z hz => ?_))))))))))))
        rw [hz.1, hz.2, b3]; clear hz z σ'
        refine ok_if_eq 39 122 rfl rfl rfl (fun h64 => ?_) (fun h64 => ?_)
        · first
            | exact back τ _ _ i3 (by omega) (lbI_w i4 (fun a b a1 a2 c1 c2 q w => by
                rcases q with q | ⟨q1, q2⟩
                · exact Or.inl q
                · subst q1; subst q2; omega))
            | exact back τ _ _ i3 (by omega) (lbI_w i4 (fun a b a1 a2 c1 c2 q w => by
                rcases q with q | ⟨q1, q2⟩
                · exact Or.inl q
                · subst q1; subst q2; exact Or.inr (by omega)))
        · refine ok_iload 40 rfl rfl rfl (ok_aload_n 41 rfl rfl rfl (ok_getR 42 rfl rfl fl_X12_36 rfl rfl (ok_iload_n 43 rfl rfl rfl (ok_iald 44 rfl rfl rfl (by first | omega | (simp [up_if]; omega) | (simp [up_if] at *; omega)) (ok_icmp_ne 45 81 rfl rfl rfl (fun h75 => ?_) (fun h75 => ?_))))))
          · refine ok_iconst 47 rfl rfl (by decide) (ok_ist6 48 rfl rfl rfl ?_)
            have hw1 : 1 ≤ W i j := by have := hW i j i1 (by omega) j1 (by omega); omega
            have hne : τ 8 (8 + j) ≠ τ 8 i := by omega
            refine lpO2 (fun (k : Int) (_ : eS) => [some (vr 0), some (vi s), some (vi n), some (vi i), some (vi j), some (vi (τ 8 (8 + j))), some (vi k)]) (fun _ τ => τ) (fun k ρ => 0 ≤ k ∧ k ≤ 16 ∧ fr (fun c _ => c = 8) σ ρ ∧ ∀ x, 0 ≤ x → x < 16 → ρ 8 x = if x < k ∧ τ 8 x = τ 8 (8 + j) then τ 8 i else τ 8 x) (fun k _ => (16 - k).toNat) ?_ 0 τ ⟨by omega, by omega, i3, fun x a b => by rw [if_neg (by omega)]⟩
            rintro k ρ ⟨k1, k2, k3, k4⟩ ih3
            refine ok_iload 49 rfl rfl rfl (ok_bipush 50 rfl rfl (by decide) (by decide) (ok_icmp_ge 51 122 rfl rfl rfl (fun h88 => ?_) (fun h88 => ?_)))
            · refine back ρ _ _ k3 (by omega) (lbI_m ⟨g1, g2⟩ i4 ⟨i1, by omega⟩ ⟨j1, by omega⟩ hw1 hne (fun x a b => ?_))
              rw [k4 x a b]
              by_cases u : τ 8 x = τ 8 (8 + j)
              · rw [if_pos ⟨by omega, u⟩, if_pos u]
              · rw [if_neg (fun q => u q.2), if_neg u]
            · have ck := k4 k k1 (by omega)
              rw [if_neg (by omega)] at ck
              have ci := k4 i i1 (by omega)
              rw [if_neg (fun q => hne q.2.symm)] at ci
              refine ok_aload_n 52 rfl rfl rfl (ok_getR 53 rfl rfl fl_X12_36 rfl rfl (ok_iload 54 rfl rfl rfl (ok_iald 55 rfl rfl rfl (by first | omega | (simp [up_if]; omega) | (simp [up_if] at *; omega)) (ok_iload 56 rfl rfl rfl (ok_icmp_ne 57 116 rfl rfl rfl (fun h100 => ?_) (fun h100 => ?_))))))
              · refine ok_inc6 66 rfl rfl rfl (by first | omega | (simp [up_if]; omega) | (simp [up_if] at *; omega)) (ok_goto 67 84 rfl rfl rfl ?_)
                first
                  | (refine ih3 (k + 1) _ ⟨by omega, by omega, k3, fun x a b => ?_⟩ (by omega)
                     rw [k4 x a b]
                     by_cases w : x = k
                     · subst w; rw [if_neg (by omega), if_neg (by omega)]
                     · by_cases u : x < k ∧ τ 8 x = τ 8 (8 + j)
                       · rw [if_pos u, if_pos ⟨by omega, u.2⟩]
                       · rw [if_neg u, if_neg (fun q => u ⟨by omega, q.2⟩)])
                  | (refine ih3 (k + 1) _ ⟨by omega, by omega, fr_up k3 rfl, fun x a b => ?_⟩ (by omega)
                     by_cases w : x = k
                     · subst w; rw [up_same, ci, if_pos ⟨by omega, by omega⟩]
                     · rw [up_nk _ _ _ _ w, k4 x a b]
                       by_cases u : x < k ∧ τ 8 x = τ 8 (8 + j)
                       · rw [if_pos u, if_pos ⟨by omega, u.2⟩]
                       · rw [if_neg u, if_neg (fun q => u ⟨by omega, q.2⟩)])
              · refine ok_aload_n 58 rfl rfl rfl (ok_getR 59 rfl rfl fl_X12_36 rfl rfl (ok_iload 60 rfl rfl rfl (ok_aload_n 61 rfl rfl rfl (ok_getR 62 rfl rfl fl_X12_36 rfl rfl (ok_iload_n 63 rfl rfl rfl (ok_iald 64 rfl rfl rfl (by first | omega | (simp [up_if]; omega) | (simp [up_if] at *; omega)) (ok_iast 65 rfl rfl rfl (by first | omega | (simp [up_if]; omega) | (simp [up_if] at *; omega)) (ok_inc6 66 rfl rfl rfl (by first | omega | (simp [up_if]; omega) | (simp [up_if] at *; omega)) (ok_goto 67 84 rfl rfl rfl ?_)))))))))
                first
                  | (refine ih3 (k + 1) _ ⟨by omega, by omega, k3, fun x a b => ?_⟩ (by omega)
                     rw [k4 x a b]
                     by_cases w : x = k
                     · subst w; rw [if_neg (by omega), if_neg (by omega)]
                     · by_cases u : x < k ∧ τ 8 x = τ 8 (8 + j)
                       · rw [if_pos u, if_pos ⟨by omega, u.2⟩]
                       · rw [if_neg u, if_neg (fun q => u ⟨by omega, q.2⟩)])
                  | (refine ih3 (k + 1) _ ⟨by omega, by omega, fr_up k3 rfl, fun x a b => ?_⟩ (by omega)
                     by_cases w : x = k
                     · subst w; rw [up_same, ci, if_pos ⟨by omega, by omega⟩]
                     · rw [up_nk _ _ _ _ w, k4 x a b]
                       by_cases u : x < k ∧ τ 8 x = τ 8 (8 + j)
                       · rw [if_pos u, if_pos ⟨by omega, u.2⟩]
                       · rw [if_neg u, if_neg (fun q => u ⟨by omega, q.2⟩)])
          · refine ok_goto 46 122 rfl rfl rfl ?_
            first
              | exact back τ _ _ i3 (by omega) (lbI_w i4 (fun a b a1 a2 c1 c2 q w => by
                  rcases q with q | ⟨q1, q2⟩
                  · exact Or.inl q
                  · subst q1; subst q2; omega))
              | exact back τ _ _ i3 (by omega) (lbI_w i4 (fun a b a1 a2 c1 c2 q w => by
                  rcases q with q | ⟨q1, q2⟩
                  · exact Or.inl q
                  · subst q1; subst q2; exact Or.inr (by omega)))
  · refine ok_aload_n 10 rfl rfl rfl (ok_getR 11 rfl rfl fl_X12_36 rfl rfl (ok_iload_n 12 rfl rfl rfl (ok_iload_n 13 rfl rfl rfl (ok_iast 14 rfl rfl rfl (by first | omega | (simp [up_if]; omega) | (simp [up_if] at *; omega)) (ok_inc3 15 rfl rfl rfl (by first | omega | (simp [up_if]; omega) | (simp [up_if] at *; omega)) (ok_goto 16 9 rfl rfl rfl ?_))))))
    refine ih (k + 1) _ ⟨by omega, by omega, fr_up i3 rfl, fun x a b => ?_⟩ (by omega)
    by_cases w : x = k
    · rw [w, up_same]
    · rw [up_nk _ _ _ _ w]; exact i4 x a (by omega)
end
section
/-! COUNTING the bits of a long -/
def uL (z : Int) : Nat := (Int64.ofInt z).toBitVec.toNat
theorem uL_lt (z : Int) : uL z < 18446744073709551616 := (Int64.ofInt z).toBitVec.isLt
theorem uL_mod (z : Int) : ((uL z : Nat) : Int) = z % 18446744073709551616 := by
  show (((BitVec.ofInt 64 z).toNat : Nat) : Int) = _
  rw [BitVec.toNat_ofInt]
  omega
theorem uL_wl (z : Int) : ((uL (wl z) : Nat) : Int) = z % 18446744073709551616 := by
  have e : uL (wl z) = uL z := by unfold uL wl; rw [Int64.ofInt_toInt]
  rw [e, uL_mod]
theorem uL_and (a b : Int) : uL (land a b) = uL a &&& uL b := by unfold uL land; rw [Int64.ofInt_toInt, Int64.toBitVec_and, BitVec.toNat_and]
theorem uL_shr (a : Int) {k : Int} {n : Nat} (e : k = (n : Int)) (hn : n < 64) : uL (lushr a k) = uL a / 2 ^ n := by
  subst e
  unfold uL lushr
  rw [Int64.ofInt_toInt]
  show ((Int64.ofInt a).toUInt64 >>> ((Int32.ofInt (n : Int)).toInt64.toUInt64 &&& Int64.toUInt64 63)).toBitVec.toNat = (Int64.ofInt a).toUInt64.toBitVec.toNat / 2 ^ n
  rw [UInt64.toBitVec_shiftRight]
  show ((Int64.ofInt a).toUInt64.toBitVec >>> (((Int32.ofInt (n : Int)).toInt64.toUInt64 &&& Int64.toUInt64 63).toBitVec % 64).toNat).toNat = _
  rw [su_64 ⟨n, hn⟩, BitVec.toNat_ushiftRight, Nat.shiftRight_eq_div_pow]
theorem uL_add (a b : Int) : uL (wl (a + b)) = (uL a + uL b) % 18446744073709551616 := by
  have h1 := uL_wl (a + b)
  have h2 := uL_mod a
  have h3 := uL_mod b
  omega
theorem uL_sub {a b : Int} (h : uL b ≤ uL a) : uL (wl (a - b)) = uL a - uL b := by
  have h1 := uL_wl (a - b)
  have h2 := uL_mod a
  have h3 := uL_mod b
  have h4 := uL_lt a
  omega
theorem lb_u (z : Int) (i : Nat) : lb z i = (uL z).testBit i := by
  unfold lb uL
  rw [BitVec.testBit_toNat]
theorem ib_127 : ∀ i : Fin 32, ib 127 i.val = decide (i.val < 7) := by decide +kernel
theorem i127 (z : Int) : iand (wr z) 127 = ((uL z % 128 : Nat) : Int) := by
  have hb : ∀ i, i < 32 → ib (iand (wr z) 127) i = (lb z i && decide (i < 7)) := fun i hi => by rw [ib_and, ib_wr z hi, ib_127 ⟨i, hi⟩]
  have hs := sm_bits (rg_iand (wr z) 127) (fun i a b => by rw [hb i b, decide_eq_false (by omega), Bool.and_false])
  refine bt_ext hs ⟨by omega, by omega⟩ (fun c a b => ?_)
  rw [bt_ib hs ⟨a, b⟩, hb _ (by omega), lb_u]
  show _ = (((uL z % 128 : Nat) : Int)).toNat.testBit c.toNat
  rw [Int.toNat_natCast, show (128 : Nat) = 2 ^ 7 by decide, Nat.testBit_mod_two_pow, Bool.and_comm]
theorem rowJ_u (a : Int) {k : Int} {m : Nat} (hk : 0 ≤ k ∧ k < 8) (e : k = (m : Int)) : rowJ a k = ((uL a / 2 ^ (8 * m) % 256 : Nat) : Int) := by
  obtain ⟨h1, h2⟩ := rowJ_sp (J := a) hk
  refine bt_ext h1 ⟨by omega, by omega⟩ (fun c p q => ?_)
  rw [h2 c p q]
  show lb a (k * 8 + c).toNat = (((uL a / 2 ^ (8 * m) % 256 : Nat) : Int)).toNat.testBit c.toNat
  rw [Int.toNat_natCast, show (256 : Nat) = 2 ^ 8 by decide, Nat.testBit_mod_two_pow, Nat.testBit_div_two_pow, decide_eq_true (by omega), Bool.true_and, lb_u]
  congr 1
  omega
/-- byte by byte -/
def dS (f : Nat → Nat) : Nat → Nat → Nat
  | 0, _ => 0
  | m + 1, X => 256 * dS f m (X / 256) + f (X % 256)
def mS (u : Nat) : Nat → Nat
  | 0 => 0
  | m + 1 => 256 * mS u m + u
theorem and_sp (A B : Nat) : A &&& B = 256 * (A / 256 &&& B / 256) + (A % 256 &&& B % 256) := by
  have h1 : (A &&& B) / 2 ^ 8 = A / 2 ^ 8 &&& B / 2 ^ 8 := Nat.and_div_two_pow
  have h2 : (A &&& B) % 2 ^ 8 = A % 2 ^ 8 &&& B % 2 ^ 8 := Nat.and_mod_two_pow
  rw [← h1, ← h2]
  omega
theorem dS_cg {f g : Nat → Nat} (h : ∀ b, b < 256 → f b = g b) : ∀ m X, dS f m X = dS g m X
  | 0, _ => rfl
  | m + 1, X => by rw [dS, dS, dS_cg h m, h _ (Nat.mod_lt _ (by decide))]
theorem dS_add (f g : Nat → Nat) : ∀ m X, dS f m X + dS g m X = dS (fun b => f b + g b) m X
  | 0, _ => rfl
  | m + 1, X => by
    have := dS_add f g m (X / 256)
    rw [dS, dS, dS]
    omega
theorem dS_id : ∀ m X, X < 256 ^ m → dS (fun b => b) m X = X
  | 0, X, h => by
    have : X = 0 := by simpa using h
    rw [this]; rfl
  | m + 1, X, h => by
    have := dS_id m (X / 256) (by rw [Nat.pow_succ] at h; omega)
    rw [dS, this]
    omega
theorem dS_dS {f g : Nat → Nat} (h : ∀ b, b < 256 → f b < 256) : ∀ m X, dS g m (dS f m X) = dS (fun b => g (f b)) m X
  | 0, _ => rfl
  | m + 1, X => by
    have a := h (X % 256) (Nat.mod_lt _ (by decide))
    have e1 : dS f (m + 1) X / 256 = dS f m (X / 256) := by rw [dS]; omega
    have e2 : dS f (m + 1) X % 256 = f (X % 256) := by rw [dS]; omega
    rw [dS, e1, e2, dS_dS h m]
    rfl
theorem cs2 : ∀ t : Fin 2, ∀ b : Fin 256, (128 * t.val + b.val / 2) &&& 85 = (b.val / 2) &&& 85 := by decide +kernel
theorem cs4 : ∀ t : Fin 4, ∀ b : Fin 256, (64 * t.val + b.val / 4) &&& 51 = (b.val / 4) &&& 51 := by decide +kernel
theorem sh2 : ∀ m X, X / 2 &&& mS 85 m = dS (fun b => b / 2 &&& 85) m X
  | 0, _ => Nat.and_zero _
  | m + 1, X => by
    have h := sh2 m (X / 256)
    rw [and_sp]
    have e1 : mS 85 (m + 1) / 256 = mS 85 m := by rw [mS]; omega
    have e2 : mS 85 (m + 1) % 256 = 85 := by rw [mS]; omega
    have e3 : X / 2 / 256 = X / 256 / 2 := by omega
    have e4 : X / 2 % 256 = 128 * (X / 256 % 2) + X % 256 / 2 := by omega
    rw [e1, e2, e3, e4, h]
    have c := cs2 ⟨X / 256 % 2, Nat.mod_lt _ (by decide)⟩ ⟨X % 256, Nat.mod_lt _ (by decide)⟩
    dsimp only at c
    rw [c]
    rfl
theorem sh4 : ∀ m X, X / 4 &&& mS 51 m = dS (fun b => b / 4 &&& 51) m X
  | 0, _ => Nat.and_zero _
  | m + 1, X => by
    have h := sh4 m (X / 256)
    rw [and_sp]
    have e1 : mS 51 (m + 1) / 256 = mS 51 m := by rw [mS]; omega
    have e2 : mS 51 (m + 1) % 256 = 51 := by rw [mS]; omega
    have e3 : X / 4 / 256 = X / 256 / 4 := by omega
    have e4 : X / 4 % 256 = 64 * (X / 256 % 4) + X % 256 / 4 := by omega
    rw [e1, e2, e3, e4, h]
    have c := cs4 ⟨X / 256 % 4, Nat.mod_lt _ (by decide)⟩ ⟨X % 256, Nat.mod_lt _ (by decide)⟩
    dsimp only at c
    rw [c]
    rfl
theorem sh1 : ∀ m X, X &&& mS 51 m = dS (fun b => b &&& 51) m X
  | 0, _ => Nat.and_zero _
  | m + 1, X => by
    have h := sh1 m (X / 256)
    rw [and_sp]
    have e1 : mS 51 (m + 1) / 256 = mS 51 m := by rw [mS]; omega
    have e2 : mS 51 (m + 1) % 256 = 51 := by rw [mS]; omega
    rw [e1, e2, h]
    rfl
theorem an15 (x : Nat) : x &&& 15 = x % 16 := Nat.and_two_pow_sub_one_eq_mod x 4
theorem dS_lo {f : Nat → Nat} (h : ∀ b, b < 256 → f b % 16 ≤ 4 ∧ f b / 16 ≤ 4) : ∀ m X, dS f m X % 16 ≤ 4
  | 0, _ => by show (0 : Nat) % 16 ≤ 4; decide
  | m + 1, X => by
    have a := h (X % 256) (Nat.mod_lt _ (by decide))
    rw [dS]
    omega
theorem sh16 {f : Nat → Nat} (h : ∀ b, b < 256 → f b % 16 ≤ 4 ∧ f b / 16 ≤ 4) : ∀ m X, (dS f m X + dS f m X / 16) &&& mS 15 m = dS (fun b => (f b + f b / 16) % 16) m X
  | 0, _ => by show (0 + 0 / 16 : Nat) &&& 0 = 0; rfl
  | m + 1, X => by
    have a := h (X % 256) (Nat.mod_lt _ (by decide))
    have l := dS_lo h m (X / 256)
    have ih := sh16 h m (X / 256)
    rw [and_sp]
    have e1 : mS 15 (m + 1) / 256 = mS 15 m := by rw [mS]; omega
    have e2 : mS 15 (m + 1) % 256 = 15 := by rw [mS]; omega
    have e3 : (dS f (m + 1) X + dS f (m + 1) X / 16) / 256 = dS f m (X / 256) + dS f m (X / 256) / 16 := by rw [dS]; omega
    have e4 : (dS f (m + 1) X + dS f (m + 1) X / 16) % 256 = 16 * (dS f m (X / 256) % 16) + (f (X % 256) + f (X % 256) / 16) := by rw [dS]; omega
    rw [e1, e2, e3, e4, ih, an15, dS]
    omega
def f1b (b : Nat) : Nat := b - (b / 2 &&& 85)
def f2b (b : Nat) : Nat := (b &&& 51) + (b / 4 &&& 51)
def fpc (b : Nat) : Nat := (f2b (f1b b) + f2b (f1b b) / 16) % 16
theorem f1b_ok : ∀ b : Fin 256, f1b b.val + (b.val / 2 &&& 85) = b.val ∧ f1b b.val < 256 ∧ f2b (f1b b.val) % 16 ≤ 4 ∧ f2b (f1b b.val) / 16 ≤ 4 := by decide +kernel
theorem fpc_ok : ∀ b : Fin 256, ((fpc b.val : Nat) : Int) = pc (b.val : Int) := by decide +kernel
theorem fpc_le : ∀ b : Fin 256, fpc b.val ≤ 8 := by decide +kernel
theorem pop_a {c0 c1 c2 c3 c4 c5 c6 c7 T T1 : Nat} (h0 : c0 ≤ 8) (h1 : c1 ≤ 8) (h2 : c2 ≤ 8) (h3 : c3 ≤ 8) (h4 : c4 ≤ 8) (h5 : c5 ≤ 8) (h6 : c6 ≤ 8) (h7 : c7 ≤ 8)
    (eT : T = c0 + 256 * c1 + 65536 * c2 + 16777216 * c3 + 4294967296 * c4 + 1099511627776 * c5 + 281474976710656 * c6 + 72057594037927936 * c7) (e1 : T1 = (T + T / 2 ^ 8) % 18446744073709551616) : T1 = (c0 + c1) + 256 * (c1 + c2) + 65536 * (c2 + c3) + 16777216 * (c3 + c4) + 4294967296 * (c4 + c5) + 1099511627776 * (c5 + c6) + 281474976710656 * (c6 + c7) + 72057594037927936 * c7 := by
  have d1 : T / 2 ^ 8 = c1 + 256 * c2 + 65536 * c3 + 16777216 * c4 + 4294967296 * c5 + 1099511627776 * c6 + 281474976710656 * c7 := by clear e1; omega
  rw [d1] at e1
  clear d1
  have b2 : T + (c1 + 256 * c2 + 65536 * c3 + 16777216 * c4 + 4294967296 * c5 + 1099511627776 * c6 + 281474976710656 * c7) < 18446744073709551616 := by clear e1; omega
  rw [Nat.mod_eq_of_lt b2] at e1
  clear b2
  subst eT; subst e1
  omega
theorem pop_b {c0 c1 c2 c3 c4 c5 c6 c7 T T1 : Nat} (h0 : c0 ≤ 16) (h1 : c1 ≤ 16) (h2 : c2 ≤ 16) (h3 : c3 ≤ 16) (h4 : c4 ≤ 16) (h5 : c5 ≤ 16) (h6 : c6 ≤ 16) (h7 : c7 ≤ 16)
    (eT : T = c0 + 256 * c1 + 65536 * c2 + 16777216 * c3 + 4294967296 * c4 + 1099511627776 * c5 + 281474976710656 * c6 + 72057594037927936 * c7) (e1 : T1 = (T + T / 2 ^ 16) % 18446744073709551616) : T1 = (c0 + c2) + 256 * (c1 + c3) + 65536 * (c2 + c4) + 16777216 * (c3 + c5) + 4294967296 * (c4 + c6) + 1099511627776 * (c5 + c7) + 281474976710656 * c6 + 72057594037927936 * c7 := by
  have d1 : T / 2 ^ 16 = c2 + 256 * c3 + 65536 * c4 + 16777216 * c5 + 4294967296 * c6 + 1099511627776 * c7 := by clear e1; omega
  rw [d1] at e1
  clear d1
  have b2 : T + (c2 + 256 * c3 + 65536 * c4 + 16777216 * c5 + 4294967296 * c6 + 1099511627776 * c7) < 18446744073709551616 := by clear e1; omega
  rw [Nat.mod_eq_of_lt b2] at e1
  clear b2
  subst eT; subst e1
  omega
theorem pop_c {c0 c1 c2 c3 c4 c5 c6 c7 T T1 : Nat} (h0 : c0 ≤ 32) (h1 : c1 ≤ 32) (h2 : c2 ≤ 32) (h3 : c3 ≤ 32) (h4 : c4 ≤ 32) (h5 : c5 ≤ 32) (h6 : c6 ≤ 32) (h7 : c7 ≤ 32)
    (eT : T = c0 + 256 * c1 + 65536 * c2 + 16777216 * c3 + 4294967296 * c4 + 1099511627776 * c5 + 281474976710656 * c6 + 72057594037927936 * c7) (e1 : T1 = (T + T / 2 ^ 32) % 18446744073709551616) : T1 % 128 = c0 + c4 := by
  have d1 : T / 2 ^ 32 = c4 + 256 * c5 + 65536 * c6 + 16777216 * c7 := by clear e1; omega
  rw [d1] at e1
  clear d1
  have b2 : T + (c4 + 256 * c5 + 65536 * c6 + 16777216 * c7) < 18446744073709551616 := by clear e1; omega
  rw [Nat.mod_eq_of_lt b2] at e1
  clear b2
  subst eT; subst e1
  omega
theorem pop_sum {c0 c1 c2 c3 c4 c5 c6 c7 T T1 T2 T3 : Nat} (h0 : c0 ≤ 8) (h1 : c1 ≤ 8) (h2 : c2 ≤ 8) (h3 : c3 ≤ 8) (h4 : c4 ≤ 8) (h5 : c5 ≤ 8) (h6 : c6 ≤ 8) (h7 : c7 ≤ 8)
    (eT : T = c0 + 256 * c1 + 65536 * c2 + 16777216 * c3 + 4294967296 * c4 + 1099511627776 * c5 + 281474976710656 * c6 + 72057594037927936 * c7)
    (e1 : T1 = (T + T / 2 ^ 8) % 18446744073709551616) (e2 : T2 = (T1 + T1 / 2 ^ 16) % 18446744073709551616) (e3 : T3 = (T2 + T2 / 2 ^ 32) % 18446744073709551616) : T3 % 128 = c0 + c1 + c2 + c3 + c4 + c5 + c6 + c7 := by
  have g1 := pop_a h0 h1 h2 h3 h4 h5 h6 h7 eT e1
  have g2 := pop_b (Nat.add_le_add h0 h1) (Nat.add_le_add h1 h2) (Nat.add_le_add h2 h3) (Nat.add_le_add h3 h4) (Nat.add_le_add h4 h5) (Nat.add_le_add h5 h6) (Nat.add_le_add h6 h7) (Nat.le_trans h7 (by decide)) g1 e2
  have g3 := pop_c (Nat.add_le_add (Nat.add_le_add h0 h1) (Nat.add_le_add h2 h3)) (Nat.add_le_add (Nat.add_le_add h1 h2) (Nat.add_le_add h3 h4)) (Nat.add_le_add (Nat.add_le_add h2 h3) (Nat.add_le_add h4 h5)) (Nat.add_le_add (Nat.add_le_add h3 h4) (Nat.add_le_add h5 h6)) (Nat.add_le_add (Nat.add_le_add h4 h5) (Nat.add_le_add h6 h7)) (Nat.le_trans (Nat.add_le_add (Nat.add_le_add h5 h6) h7) (by decide)) (Nat.le_trans (Nat.add_le_add h6 h7) (by decide)) (Nat.le_trans h7 (by decide)) g2 e3
  rw [g3]
  clear g1 g2 g3 eT e1 e2 e3 h0 h1 h2 h3 h4 h5 h6 h7
  omega
theorem dS_8 (f : Nat → Nat) (X : Nat) : dS f 8 X = f (X % 256) + 256 * f (X / 256 % 256) + 65536 * f (X / 65536 % 256) + 16777216 * f (X / 16777216 % 256) + 4294967296 * f (X / 4294967296 % 256) + 1099511627776 * f (X / 1099511627776 % 256) + 281474976710656 * f (X / 281474976710656 % 256) + 72057594037927936 * f (X / 72057594037927936 % 256) := by
  simp only [dS, Nat.div_div_eq_div_mul, Nat.reduceMul]
  omega
def bL1 (a : Int) : Int := wl (a - land (lushr a 1) 6148914691236517205)
def bL2 (a : Int) : Int := wl (land a 3689348814741910323 + land (lushr a 2) 3689348814741910323)
def bL3 (a : Int) : Int := land (wl (a + lushr a 4)) 1085102592571150095
def bL4 (a : Int) : Int := wl (a + lushr a 8)
def bL5 (a : Int) : Int := wl (a + lushr a 16)
def bL6 (a : Int) : Int := wl (a + lushr a 32)
theorem uC55 : uL 6148914691236517205 = mS 85 8 := by decide +kernel
theorem uC33 : uL 3689348814741910323 = mS 51 8 := by decide +kernel
theorem uC0f : uL 1085102592571150095 = mS 15 8 := by decide +kernel
theorem bL_pc (a : Int) : iand (wr (bL6 (bL5 (bL4 (bL3 (bL2 (bL1 a))))))) 127 = sm (fun r => pc (rowJ a r)) 8 := by
  have x0 := uL_lt a
  have id0 : dS (fun b => b) 8 (uL a) = uL a := dS_id 8 _ (by show uL a < 256 ^ 8; omega)
  have g1 : dS f1b 8 (uL a) + dS (fun b => b / 2 &&& 85) 8 (uL a) = uL a := by
    rw [dS_add, dS_cg (g := fun b => b) (fun b h => (f1b_ok ⟨b, h⟩).1), id0]
  have s1 : uL (land (lushr a 1) 6148914691236517205) = dS (fun b => b / 2 &&& 85) 8 (uL a) := by
    rw [uL_and, uL_shr a (k := 1) (n := 1) rfl (by decide), uC55]; exact sh2 8 _
  have u1 : uL (bL1 a) = dS f1b 8 (uL a) := by
    unfold bL1
    rw [uL_sub (by omega), s1]; omega
  have u2 : uL (bL2 (bL1 a)) = dS (fun b => f2b (f1b b)) 8 (uL a) := by
    have t1 : uL (land (bL1 a) 3689348814741910323) = dS (fun b => b &&& 51) 8 (uL (bL1 a)) := by rw [uL_and, uC33]; exact sh1 8 _
    have t2 : uL (land (lushr (bL1 a) 2) 3689348814741910323) = dS (fun b => b / 4 &&& 51) 8 (uL (bL1 a)) := by rw [uL_and, uL_shr _ (k := 2) (n := 2) rfl (by decide), uC33]; exact sh4 8 _
    have e : uL (bL2 (bL1 a)) = dS f2b 8 (uL (bL1 a)) % 18446744073709551616 := by
      show uL (wl (land (bL1 a) 3689348814741910323 + land (lushr (bL1 a) 2) 3689348814741910323)) = _
      rw [uL_add, t1, t2, dS_add]; rfl
    rw [e, u1, dS_dS (fun b h => (f1b_ok ⟨b, h⟩).2.1)]
    have lo := fun b (h : b < 256) => (f1b_ok ⟨b, h⟩).2.2
    refine Nat.mod_eq_of_lt ?_
    have bd : ∀ m X, dS (fun b => f2b (f1b b)) m X < 256 ^ m := fun m => by
      induction m with
      | zero => intro X; exact Nat.one_pos
      | succ m ih =>
        intro X
        have h1 := ih (X / 256)
        have h2 := lo (X % 256) (Nat.mod_lt _ (by decide))
        rw [dS, Nat.pow_succ]
        dsimp only at h2
        omega
    exact bd 8 _
  have u3 : uL (bL3 (bL2 (bL1 a))) = dS fpc 8 (uL a) := by
    have lo := fun b (h : b < 256) => (f1b_ok ⟨b, h⟩).2.2
    have q := sh16 (f := fun b => f2b (f1b b)) lo 8 (uL a)
    unfold bL3
    rw [uL_and, uC0f, uL_add, uL_shr _ (k := 4) (n := 4) rfl (by decide), u2]
    obtain ⟨Z, eZ⟩ : ∃ Z, Z = dS (fun b => f2b (f1b b)) 8 (uL a) := ⟨_, rfl⟩
    have zb : Z % 16 ≤ 4 ∧ Z < 5000000000000000000 := by
      refine ⟨by rw [eZ]; exact dS_lo lo 8 _, ?_⟩
      have hd : ∀ m X, dS (fun b => f2b (f1b b)) m X ≤ 68 * mS 1 m := fun m => by
        induction m with
        | zero => intro X; exact Nat.le_refl _
        | succ m ih =>
          intro X
          have h1 := ih (X / 256)
          have h2 := lo (X % 256) (Nat.mod_lt _ (by decide))
          rw [dS, mS]
          dsimp only at h2
          omega
      have := hd 8 (uL a)
      have e8 : mS 1 8 = 72340172838076673 := by decide
      rw [e8] at this
      omega
    rw [← eZ] at q ⊢
    rw [show (Z + Z / 2 ^ 4) % 18446744073709551616 = Z + Z / 16 by omega]
    exact q
  have c : ∀ k, fpc (uL a / k % 256) ≤ 8 := fun k => fpc_le ⟨uL a / k % 256, Nat.mod_lt _ (by decide)⟩
  have p : ∀ (k : Int) (m : Nat), 0 ≤ k ∧ k < 8 → k = (m : Int) → pc (rowJ a k) = ((fpc (uL a / 2 ^ (8 * m) % 256) : Nat) : Int) := fun k m hk e => by
    rw [rowJ_u a hk e]
    exact (fpc_ok ⟨uL a / 2 ^ (8 * m) % 256, Nat.mod_lt _ (by decide)⟩).symm
  have tot : sm (fun r => pc (rowJ a r)) 8 = pc (rowJ a 0) + pc (rowJ a 1) + pc (rowJ a 2) + pc (rowJ a 3) + pc (rowJ a 4) + pc (rowJ a 5) + pc (rowJ a 6) + pc (rowJ a 7) := by
    show 0 + pc (rowJ a 0) + pc (rowJ a 1) + pc (rowJ a 2) + pc (rowJ a 3) + pc (rowJ a 4) + pc (rowJ a 5) + pc (rowJ a 6) + pc (rowJ a 7) = _
    rw [Int.zero_add]
  rw [i127, tot, p 0 0 ⟨by decide, by decide⟩ rfl, p 1 1 ⟨by decide, by decide⟩ rfl, p 2 2 ⟨by decide, by decide⟩ rfl, p 3 3 ⟨by decide, by decide⟩ rfl, p 4 4 ⟨by decide, by decide⟩ rfl, p 5 5 ⟨by decide, by decide⟩ rfl, p 6 6 ⟨by decide, by decide⟩ rfl, p 7 7 ⟨by decide, by decide⟩ rfl]
  have fin := pop_sum (c (2 ^ (8 * 0))) (c (2 ^ (8 * 1))) (c (2 ^ (8 * 2))) (c (2 ^ (8 * 3))) (c (2 ^ (8 * 4))) (c (2 ^ (8 * 5))) (c (2 ^ (8 * 6))) (c (2 ^ (8 * 7))) (T := uL (bL3 (bL2 (bL1 a)))) (T1 := uL (bL4 (bL3 (bL2 (bL1 a))))) (T2 := uL (bL5 (bL4 (bL3 (bL2 (bL1 a)))))) (T3 := uL (bL6 (bL5 (bL4 (bL3 (bL2 (bL1 a)))))))
    (by
      rw [u3, dS_8]
      show _ = fpc (uL a / 1 % 256) + 256 * fpc (uL a / 256 % 256) + 65536 * fpc (uL a / 65536 % 256) + 16777216 * fpc (uL a / 16777216 % 256) + 4294967296 * fpc (uL a / 4294967296 % 256) + 1099511627776 * fpc (uL a / 1099511627776 % 256) + 281474976710656 * fpc (uL a / 281474976710656 % 256) + 72057594037927936 * fpc (uL a / 72057594037927936 % 256)
      rw [Nat.div_one])
    (by show uL (wl (bL3 (bL2 (bL1 a)) + lushr (bL3 (bL2 (bL1 a))) 8)) = _; rw [uL_add, uL_shr _ (k := 8) (n := 8) rfl (by decide)])
    (by show uL (wl (bL4 (bL3 (bL2 (bL1 a))) + lushr (bL4 (bL3 (bL2 (bL1 a)))) 16)) = _; rw [uL_add, uL_shr _ (k := 16) (n := 16) rfl (by decide)])
    (by show uL (wl (bL5 (bL4 (bL3 (bL2 (bL1 a)))) + lushr (bL5 (bL4 (bL3 (bL2 (bL1 a))))) 32)) = _; rw [uL_add, uL_shr _ (k := 32) (n := 32) rfl (by decide)])
  rw [fin]
  omega
theorem t_Jl_bitCount {σ : eS} {a : Int} : MtI shA M_Jl_bitCount [vl a] σ (fun σ' z => σ' = σ ∧ z = sm (fun r => pc (rowJ a r)) 8) := by
  refine Mt.of okM_Jl_bitCount (Nat.le_of_ble_eq_true rfl) (fun hk hg => ?_)
  rw [← bL_pc a]
  refine ok_lload_n 0 rfl rfl rfl (ok_lload_n 1 rfl rfl rfl (ok_iconst 2 rfl rfl (by decide) (ok_lushr 3 rfl rfl (ok_ldc2 4 (6148914691236517205) rfl rfl kc_J13_314 (by decide) (ok_land 5 rfl rfl (ok_lsubW 6 rfl rfl (ok_lst0 7 rfl rfl (ok_lload_n 8 rfl rfl rfl (ok_ldc2 9 (3689348814741910323) rfl rfl kc_J13_316 (by decide) (ok_land 10 rfl rfl (ok_lload_n 11 rfl rfl rfl (ok_iconst 12 rfl rfl (by decide) (ok_lushr 13 rfl rfl (ok_ldc2 14 (3689348814741910323) rfl rfl kc_J13_316 (by decide) (ok_land 15 rfl rfl (ok_laddW 16 rfl rfl (ok_lst0 17 rfl rfl (ok_lload_n 18 rfl rfl rfl (ok_lload_n 19 rfl rfl rfl (ok_iconst 20 rfl rfl (by decide) (ok_lushr 21 rfl rfl (ok_laddW 22 rfl rfl (ok_ldc2 23 (1085102592571150095) rfl rfl kc_J13_318 (by decide) (ok_land 24 rfl rfl (ok_lst0 25 rfl rfl (ok_lload_n 26 rfl rfl rfl (ok_lload_n 27 rfl rfl rfl (ok_bipush 28 rfl rfl (by decide) (by decide) (ok_lushr 29 rfl rfl (ok_laddW 30 rfl rfl (ok_lst0 31 rfl rfl (ok_lload_n 32 rfl rfl rfl (ok_lload_n 33 rfl rfl rfl (ok_bipush 34 rfl rfl (by decide) (by decide) (ok_lushr 35 rfl rfl (ok_laddW 36 rfl rfl (ok_lst0 37 rfl rfl (ok_lload_n 38 rfl rfl rfl (ok_lload_n 39 rfl rfl rfl (ok_bipush 40 rfl rfl (by decide) (by decide) (ok_lushr 41 rfl rfl (ok_laddW 42 rfl rfl (ok_lst0 43 rfl rfl (ok_lload_n 44 rfl rfl rfl (ok_l2iW 45 rfl rfl (ok_bipush 46 rfl rfl (by decide) (by decide) (ok_iand 47 rfl rfl (ok_iret 48 rfl rfl rfl ?_))))))))))))))))))))))))))))))))))))))))))))))))
  exact ⟨_, rfl, rfl, rfl⟩
end
section
/-! LOOK: how many cells are above 0, the greatest, the groups -/
noncomputable def cnV (n : Int) (W : Int → Int → Int) : Int := sm (fun i => sm (fun j => ind (1 ≤ W i j)) n.toNat) n.toNat
theorem cnV_cg {n : Int} {W V : Int → Int → Int} (e : ag n W V) : cnV n W = cnV n V := sm_cg (fun i a b => sm_cg (fun j c d => by rw [e i j a (by omega) c (by omega)]))
theorem cnV_bd {n : Int} {W : Int → Int → Int} (hn : 0 ≤ n ∧ n ≤ 8) : 0 ≤ cnV n W ∧ cnV n W ≤ 64 := by
  have := sm_bd (f := fun i => sm (fun j => ind (1 ≤ W i j)) n.toNat) (B := 8) (by decide) (n := n.toNat) (fun i _ _ => by
    have := sm_bd (f := fun j => ind (1 ≤ W i j)) (B := 1) (by decide) (n := n.toNat) (fun k _ _ => ind_bd _)
    (try dsimp only); omega)
  unfold cnV
  omega
theorem pc_row {J n r : Int} {W : Int → Int → Int} (hn : 0 ≤ n ∧ n ≤ 8) (hJ : jOf J n (fun i j => 1 ≤ W i j)) (hr : 0 ≤ r ∧ r < 8) : (r < n → pc (rowJ J r) = sm (fun j => ind (1 ≤ W r j)) n.toNat) ∧ (n ≤ r → pc (rowJ J r) = 0) := by
  obtain ⟨h1, h2⟩ := rowJ_sp (J := J) hr
  have e : pc (rowJ J r) = sm (fun c => ind (r < n ∧ c < n ∧ 1 ≤ W r c)) 8 := by
    rw [pcb h1]
    refine sm_cg (fun c a b => ?_)
    have := hJ.2 r c hr.1 hr.2 a (by omega)
    rw [← h2 c a (by omega)] at this
    by_cases w : bt (rowJ J r) c = true
    · rw [if_pos w, ind_t (this.mp w)]
    · rw [if_neg w, ind_f (fun q => w (this.mpr q))]
  constructor
  · intro q
    rw [e, sm_sp _ n hn (fun k a b => ind_f (fun x => by omega))]
    exact sm_cg (fun k a b => ind_cg ⟨fun x => x.2.2, fun x => ⟨q, by omega, x⟩⟩)
  · intro q
    rw [e, sm_sp _ 0 ⟨by decide, by decide⟩ (fun k a b => ind_f (fun x => by omega))]
    rfl
theorem rows_cn {J n : Int} {W : Int → Int → Int} (hn : 0 ≤ n ∧ n ≤ 8) (hJ : jOf J n (fun i j => 1 ≤ W i j)) : sm (fun r => pc (rowJ J r)) 8 = cnV n W := by
  rw [sm_sp _ n hn (fun k a b => (pc_row hn hJ ⟨by omega, b⟩).2 a)]
  exact sm_cg (fun k a b => (pc_row hn hJ ⟨a, by omega⟩).1 (by omega))
theorem t_Ta_countAbove0 {σ : eS} {t : Nat} (ht : tA t) (hT : iT σ t) : MtI shA M_Ta_countAbove0 [vr t] σ (fun σ' z => σ' = σ ∧ z = cnV (σ t 1) (cT σ t)) := by
  refine Mt.of okM_Ta_countAbove0 (Nat.le_of_ble_eq_true rfl) (fun hk hg => ?_)
  refine ok_aload_n 0 rfl rfl rfl (ok_iconst 1 rfl rfl (by decide) (ok_callVL (M' := M_Ta_joinedBy) (as := [_]) 2 rfl rfl ml_X9_65 (t_Ta_joinedBy ht hT) (sT ht) rfl (Nat.le_of_ble_eq_true rfl) ⟨Nat.le_of_ble_eq_true rfl, Nat.le_of_ble_eq_true rfl⟩ rfl (Nat.le_of_ble_eq_true rfl) (fun σ' z hz => ?_)))
  obtain ⟨hs_, hz⟩ := hz
  rw [hs_]; clear hs_ σ'
  refine ok_callSI (M' := M_Jl_bitCount) (as := [_]) 3 rfl rfl ml_X9_69 (t_Jl_bitCount) ⟨Nat.le_of_ble_eq_true rfl, Nat.le_of_ble_eq_true rfl⟩ rfl (Nat.le_of_ble_eq_true rfl) (fun σ' z2 hz2 => ?_)
  obtain ⟨hs_, hz2⟩ := hz2
  rw [hs_]; clear hs_ σ'
  refine ok_iret 4 rfl rfl rfl ?_
  exact ⟨_, rfl, rfl, by rw [hz2]; exact rows_cn ⟨hT.1, hT.2.1⟩ hz⟩
theorem sm_mul (f : Int → Int) (n : Nat) : ∀ m : Nat, sm f (n * m) = sm (fun i => sm (fun j => f ((n : Int) * i + j)) n) m
  | 0 => rfl
  | m + 1 => by
    have e := sm_s (fun i => sm (fun j => f ((n : Int) * i + j)) n) (j := (m : Int)) (by omega)
    rw [show ((m : Int) + 1).toNat = m + 1 by omega, show ((m : Int)).toNat = m by omega] at e
    rw [e, ← sm_mul f n m, Nat.mul_succ, sm_add f (n * m) n]
    congr 1
theorem cntB_cn {σ : eS} {s : Int} (hB : iB1 σ) (hs : 0 ≤ s ∧ s < 4) : cntB σ s = cnV (σ 1 s) (cB σ s) := by
  obtain ⟨g1, g2, -⟩ := hB.1 s hs.1 hs.2
  unfold cntB cnV
  rw [show (σ 1 s * σ 1 s).toNat = (σ 1 s).toNat * (σ 1 s).toNat from Int.toNat_mul g1 g1, sm_mul]
  refine sm_cg (fun i a b => sm_cg (fun j c d => ?_))
  have e : 64 * s + (((σ 1 s).toNat : Int) * i + j) = 64 * s + σ 1 s * i + j := by rw [Int.toNat_of_nonneg g1]; omega
  rw [e]
  show _ = ind (1 ≤ σ 3 (64 * s + σ 1 s * i + j))
  by_cases w : 0 < σ 3 (64 * s + σ 1 s * i + j)
  · rw [if_pos w, ind_t (by omega)]
  · rw [if_neg w, ind_f (by omega)]
end
