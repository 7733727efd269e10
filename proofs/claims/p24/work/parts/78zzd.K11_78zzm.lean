section
/-! MIXING: powers of the joins, on both sides -/
def pwR (n : Int) (W : Int → Int → Int) : Nat → Int → Int → Prop
  | 0 => fun i j => 1 ≤ W i j
  | m + 1 => fun i j => ∃ k, 0 ≤ k ∧ k < n ∧ pwR n W m i k ∧ 1 ≤ W k j
def fuR (n : Int) (op : Int → Int → Prop) : Prop := ∀ i j, 0 ≤ i → i < n → 0 ≤ j → j < n → op i j
def mxG (n : Int) (W : Int → Int → Int) (z : Int) : Prop := (z = -1 ∧ ∀ m : Int, 1 ≤ m → m ≤ 64 → ¬ fuR n (pwR n W (m - 1).toNat)) ∨ ((1 ≤ z ∧ z ≤ 64) ∧ fuR n (pwR n W (z - 1).toNat) ∧ ∀ m : Int, 1 ≤ m → m < z → ¬ fuR n (pwR n W (m - 1).toNat))
theorem pwR_cg {n : Int} {W V : Int → Int → Int} (h : ag n W V) : ∀ (m : Nat) (i j : Int), 0 ≤ i → i < n → 0 ≤ j → j < n → (pwR n W m i j ↔ pwR n V m i j)
  | 0, i, j, a, b, c, d => by show 1 ≤ W i j ↔ 1 ≤ V i j; rw [h i j a b c d]
  | m + 1, i, j, a, b, c, d => by
    constructor
    · rintro ⟨k, x, y, z, w⟩; exact ⟨k, x, y, (pwR_cg h m i k a b x y).mp z, by rw [← h k j x y c d]; exact w⟩
    · rintro ⟨k, x, y, z, w⟩; exact ⟨k, x, y, (pwR_cg h m i k a b x y).mpr z, by rw [h k j x y c d]; exact w⟩
theorem fuR_cg {n : Int} {W V : Int → Int → Int} (h : ag n W V) (m : Nat) : fuR n (pwR n W m) ↔ fuR n (pwR n V m) :=
  ⟨fun q i j a b c d => (pwR_cg h m i j a b c d).mp (q i j a b c d), fun q i j a b c d => (pwR_cg h m i j a b c d).mpr (q i j a b c d)⟩
theorem mxG_un {n z z' : Int} {W V : Int → Int → Int} (h : ag n W V) (a : mxG n W z) (b : mxG n V z') : z = z' := by
  rcases a with ⟨a1, a2⟩ | ⟨a1, a2, a3⟩ <;> rcases b with ⟨b1, b2⟩ | ⟨b1, b2, b3⟩
  · omega
  · exact absurd ((fuR_cg h _).mpr b2) (a2 z' b1.1 b1.2)
  · exact absurd ((fuR_cg h _).mp a2) (b2 z a1.1 a1.2)
  · rcases (by omega : z < z' ∨ z = z' ∨ z' < z) with q | q | q
    · exact absurd ((fuR_cg h _).mp a2) (b3 z a1.1 q)
    · exact q
    · exact absurd ((fuR_cg h _).mpr b2) (a3 z' b1.1 q)
theorem lb_small {z : Int} (h : 0 ≤ z ∧ z < 256) (k : Nat) : lb z k = z.toNat.testBit k := by
  by_cases q : k < 64
  · show (BitVec.ofInt 64 z).getLsbD k = _
    rw [← BitVec.testBit_toNat, BitVec.toNat_ofInt]
    have : (z % ((2 ^ 64 : Nat) : Int)).toNat = z.toNat := by omega
    rw [this]
  · rw [lb_big (by omega), Nat.testBit_lt_two_pow (Nat.lt_of_lt_of_le (by omega : z.toNat < 2 ^ 8) (Nat.pow_le_pow_right (by decide) (by omega)))]
theorem jb_put {v z r x y : Int} (hz : 0 ≤ z ∧ z < 256) (hr : 0 ≤ r ∧ r < 8) (hx : 0 ≤ x ∧ x < 8) (hy : 0 ≤ y ∧ y < 8) : jb (lor v (lshl z (r * 8))) x y = (jb v x y || (decide (x = r) && bt z y)) := by
  unfold jb
  rw [lb_or]
  congr 1
  obtain ⟨m, hm⟩ : ∃ m : Nat, r * 8 = (m : Int) := ⟨(r * 8).toNat, by omega⟩
  rw [hm, lb_shl z (by omega) (by omega), lb_small hz]
  by_cases q : x = r
  · rw [decide_eq_true q, decide_eq_true (by omega), show (x * 8 + y).toNat - m = y.toNat by omega]
    rfl
  · rw [decide_eq_false q, Bool.false_and]
    by_cases w : m ≤ (x * 8 + y).toNat
    · rw [Nat.testBit_lt_two_pow (Nat.lt_of_lt_of_le (by omega : z.toNat < 2 ^ 8) (Nat.pow_le_pow_right (by decide) (by omega))), Bool.and_false]
    · rw [decide_eq_false w, Bool.false_and]
theorem t_Jo_product {σ : eS} {P J n : Int} {op op' : Int → Int → Prop} (hn : 0 ≤ n ∧ n ≤ 8) (hP : jOf P n op) (hJ : jOf J n op') : MtL shA M_Jo_product [vl P, vl J, vi n] σ (fun σ' z => σ' = σ ∧ jOf z n (fun i j => ∃ k, 0 ≤ k ∧ k < n ∧ op i k ∧ op' k j)) := by
  refine Mt.of okM_Jo_product (Nat.le_of_ble_eq_true rfl) (fun hk hg => ?_)
  refine ok_lconst (w := 0) 0 rfl rfl rfl (by decide) (ok_lst5 1 rfl rfl rfl (ok_iconst 2 rfl rfl (by decide) (ok_ist7 3 rfl rfl rfl ?_)))
  refine lpO2 (fun v i : Int => [some (vl P), none, some (vl J), none, some (vi n), some (vl v), none, some (vi i)]) (fun _ _ => σ) (fun v i => 0 ≤ i ∧ i ≤ n ∧ rl v ∧ ∀ x y : Int, 0 ≤ x → x < 8 → 0 ≤ y → y < 8 → (jb v x y = true ↔ (x < i ∧ y < n ∧ ∃ k, 0 ≤ k ∧ k < n ∧ op x k ∧ op' k y))) (fun _ i => (8 - i).toNat) ?_ 0 0 ⟨by omega, by omega, ⟨by omega, by omega⟩, fun x y a b d e => by rw [jb_0]; constructor; intro q; cases q; intro q; omega⟩
  rintro v i ⟨i1, i2, v1, v2⟩ ih
  refine ok_iload 4 rfl rfl rfl (ok_iload 5 rfl rfl rfl (ok_icmp_ge 6 43 rfl rfl rfl (fun h10 => ?_) (fun h10 => ?_)))
  · refine ok_lload 23 rfl rfl rfl (ok_lret 24 rfl rfl rfl ?_)
    exact ⟨_, rfl, rfl, v1, fun x y a b d e => by rw [v2 x y a b d e, show i = n by omega]⟩
  · have rj := rowJ_sp (J := P) (r := i) ⟨by omega, by omega⟩
    refine ok_lload 7 rfl rfl rfl (ok_lload_n 8 rfl rfl rfl (ok_lload_n 9 rfl rfl rfl (ok_iload 10 rfl rfl rfl (ok_callSI (M' := M_Jo_rowOf) (as := [_, _]) 11 rfl rfl ml_X1_17 (s_Jo_rowOf) ⟨Nat.le_of_ble_eq_true rfl, Nat.le_of_ble_eq_true rfl⟩ rfl (Nat.le_of_ble_eq_true rfl) (fun σ' z hz => ?_)))))
    rw [hz.1, hz.2]
    clear hz z σ'
    refine ok_iload 12 rfl rfl rfl (ok_callSI (M' := M_Jo_columnsOf) (as := [_, _, _]) 13 rfl rfl ml_X1_25 (t_Jo_columnsOf hn rj.1) ⟨Nat.le_of_ble_eq_true rfl, Nat.le_of_ble_eq_true rfl⟩ rfl (Nat.le_of_ble_eq_true rfl) (fun σ' z hz => ?_))
    obtain ⟨hs_, hz⟩ := hz
    rw [hs_]; clear hs_ σ'
    obtain ⟨z1, z2⟩ := cOf_op hn.2 hJ hz
    refine ok_i2l 14 rfl rfl (ok_iload 15 rfl rfl rfl (ok_bipush 16 rfl rfl (by decide) (by decide) (ok_imul 17 rfl rfl (by first | omega | (simp [up_if]; omega) | (simp [up_if] at *; omega)) (ok_lshl 18 rfl rfl (ok_lor 19 rfl rfl (ok_lst5 20 rfl rfl rfl (ok_inc7 21 rfl rfl rfl (by first | omega | (simp [up_if]; omega) | (simp [up_if] at *; omega)) (ok_goto 22 6 rfl rfl rfl ?_))))))))
    refine ih _ (i + 1) ⟨by omega, by omega, rl_lor _ _, fun x y a b d e => ?_⟩ (by omega)
    rw [jb_put z1 ⟨i1, by omega⟩ ⟨a, b⟩ ⟨d, e⟩, Bool.or_eq_true, Bool.and_eq_true, v2 x y a b d e, z2 y d e, decide_eq_true_eq]
    constructor
    · rintro (⟨q1, q2⟩ | ⟨q1, q2, k, k1, k2, k3, k4⟩)
      · exact ⟨by omega, q2⟩
      · rw [rj.2 k k1 (by omega), hP.2 i k i1 (by omega) k1 (by omega)] at k3
        exact ⟨by omega, q2, k, k1, k2, by rw [q1]; exact k3.2.2, k4⟩
    · rintro ⟨q1, q2, k, k1, k2, k3, k4⟩
      by_cases w : x = i
      · refine Or.inr ⟨w, q2, k, k1, k2, ?_, k4⟩
        rw [rj.2 k k1 (by omega), hP.2 i k i1 (by omega) k1 (by omega)]
        exact ⟨by omega, k2, by rw [← w]; exact k3⟩
      · exact Or.inl ⟨by omega, q2, k, k1, k2, k3, k4⟩
theorem full_eq {P F n : Int} {op op' : Int → Int → Prop} (hn : n ≤ 8) (hP : jOf P n op) (hF : jOf F n op') (hf : fuR n op') : P = F ↔ fuR n op := by
  constructor
  · intro e i j a b c d
    have x := (hF.2 i j a (by omega) c (by omega)).mpr ⟨b, d, hf i j a b c d⟩
    rw [← e] at x
    exact ((hP.2 i j a (by omega) c (by omega)).mp x).2.2
  · intro h
    refine jb_ext hP.1 hF.1 (fun x y a b c d => ?_)
    have e1 := hP.2 x y a b c d
    have e2 := hF.2 x y a b c d
    by_cases q : x < n ∧ y < n
    · rw [e1.mpr ⟨q.1, q.2, h x y a q.1 c q.2⟩, e2.mpr ⟨q.1, q.2, hf x y a q.1 c q.2⟩]
    · have f1 : jb P x y = false := by
        cases w : jb P x y with
        | false => rfl
        | true => have := e1.mp w; omega
      have f2 : jb F x y = false := by
        cases w : jb F x y with
        | false => rfl
        | true => have := e2.mp w; omega
      rw [f1, f2]
theorem t_Jo_leastFullPower {σ : eS} {J F n : Int} {W : Int → Int → Int} {op' : Int → Int → Prop} (hn : 0 ≤ n ∧ n ≤ 8) (hJ : jOf J n (fun i j => 1 ≤ W i j)) (hF : jOf F n op') (hf : fuR n op') : MtI shA M_Jo_leastFullPower [vl J, vl F, vi n] σ (fun σ' z => σ' = σ ∧ mxG n W z) := by
  refine Mt.of okM_Jo_leastFullPower (Nat.le_of_ble_eq_true rfl) (fun hk hg => ?_)
  refine ok_lload_n 0 rfl rfl rfl (ok_lst5 1 rfl rfl rfl (ok_iconst 2 rfl rfl (by decide) (ok_ist7 3 rfl rfl rfl ?_)))
  refine lpO2 (fun v m : Int => [some (vl J), none, some (vl F), none, some (vi n), some (vl v), none, some (vi m)]) (fun _ _ => σ) (fun v m => 1 ≤ m ∧ m ≤ 65 ∧ jOf v n (pwR n W (m - 1).toNat) ∧ ∀ q : Int, 1 ≤ q → q < m → ¬ fuR n (pwR n W (q - 1).toNat)) (fun _ m => (65 - m).toNat) ?_ J 1 ⟨by omega, by omega, hJ, fun q a b => by omega⟩
  rintro v m ⟨m1, m2, v1, v2⟩ ih
  have fe := full_eq hn.2 v1 hF hf
  refine ok_iload 4 rfl rfl rfl (ok_bipush 5 rfl rfl (by decide) (by decide) (ok_icmp_gt 6 39 rfl rfl rfl (fun h10 => ?_) (fun h10 => ?_)))
  · refine ok_iconst 20 rfl rfl (by decide) (ok_iret 21 rfl rfl rfl ?_)
    exact ⟨_, rfl, rfl, Or.inl ⟨rfl, fun q a b => v2 q a (by omega)⟩⟩
  · refine ok_lload 7 rfl rfl rfl (ok_lload_n 8 rfl rfl rfl (ok_lcmp_ne 9 10 23 rfl rfl rfl rfl rfl (fun h16 => ?_) (fun h16 => ?_)))
    · refine ok_lload 13 rfl rfl rfl (ok_lload_n 14 rfl rfl rfl (ok_iload 15 rfl rfl rfl (ok_callSL (M' := M_Jo_product) (as := [_, _, _]) 16 rfl rfl ml_X1_40 (t_Jo_product hn v1 hJ) ⟨Nat.le_of_ble_eq_true rfl, Nat.le_of_ble_eq_true rfl⟩ rfl (Nat.le_of_ble_eq_true rfl) (fun σ' z hz => ?_))))
      obtain ⟨hs_, hz⟩ := hz
      rw [hs_]; clear hs_ σ'
      refine ok_lst5 17 rfl rfl rfl (ok_inc7 18 rfl rfl rfl (by first | omega | (simp [up_if]; omega) | (simp [up_if] at *; omega)) (ok_goto 19 6 rfl rfl rfl ?_))
      refine ih _ (m + 1) ⟨by omega, by omega, ?_, ?_⟩ (by omega)
      · rw [show (m + 1 - 1).toNat = (m - 1).toNat + 1 by omega]; exact hz
      · intro q a b
        by_cases y : q = m
        · rw [y]; exact fun w => absurd (fe.mpr w) (by omega)
        · exact v2 q a (by omega)
    · refine ok_iload 11 rfl rfl rfl (ok_iret 12 rfl rfl rfl ?_)
      exact ⟨_, rfl, rfl, Or.inr ⟨⟨m1, by omega⟩, fe.mp (by omega), v2⟩⟩
theorem t_Ev_mixing {σ : eS} {s : Int} (h : IA σ) : MtI shA M_Ev_mixing [vr 0, vi s] σ (fun σ' z => σ' = σ ∧ ((¬ tabA σ s ∧ z = -1) ∨ (tabA σ s ∧ mxG (σ (s.toNat + 2) 1) (cT σ (s.toNat + 2)) z))) := by
  refine Mt.of okM_Ev_mixing (Nat.le_of_ble_eq_true rfl) (fun hk hg => ?_)
  refine ok_aload_n 0 rfl rfl rfl (ok_iload_n 1 rfl rfl rfl (ok_callVR (M' := M_Ev_filledSlot) (as := [_]) 2 rfl rfl ml_X11_137 (s_Ev_filledSlot) rfl rfl (Nat.le_of_ble_eq_true rfl) ⟨Nat.le_of_ble_eq_true rfl, Nat.le_of_ble_eq_true rfl⟩ rfl (Nat.le_of_ble_eq_true rfl) (fun σ' z hz => ?_)))
  obtain ⟨hs_, hz⟩ := hz
  rw [hs_]; clear hs_ σ'
  rcases hz with ⟨q, q0⟩ | ⟨q1, q2, q, q3⟩
  · subst q
    refine ok_ast2 3 rfl rfl rfl (ok_aload_n 4 rfl rfl rfl (ok_ifnonnullN 5 rfl rfl (ok_iconst 6 rfl rfl (by decide) (ok_goto 7 31 rfl rfl rfl (ok_iret 17 rfl rfl rfl ?_)))))
    exact ⟨_, rfl, rfl, Or.inl ⟨q0, rfl⟩⟩
  · subst q
    have ht := sl_tA ⟨q1, q2⟩
    have hT := (h.2.1 _ ht).1
    have m2 := hT.2.1
    refine ok_ast2 3 rfl rfl rfl (ok_aload_n 4 rfl rfl rfl (ok_ifnonnull 5 14 rfl rfl rfl (ok_aload_n 8 rfl rfl rfl (ok_iconst 9 rfl rfl (by decide) (ok_callVL (M' := M_Ta_joinedBy) (as := [_]) 10 rfl rfl ml_X11_119 (t_Ta_joinedBy ht hT) (sT ht) rfl (Nat.le_of_ble_eq_true rfl) ⟨Nat.le_of_ble_eq_true rfl, Nat.le_of_ble_eq_true rfl⟩ rfl (Nat.le_of_ble_eq_true rfl) (fun σ' z1 x1 => ?_))))))
    obtain ⟨hs_, x1⟩ := x1
    rw [hs_]; clear hs_ σ'
    refine ok_aload_n 11 rfl rfl rfl (ok_iconst 12 rfl rfl (by decide) (ok_callVL (M' := M_Ta_joinedBy) (as := [_]) 13 rfl rfl ml_X11_119 (t_Ta_joinedBy ht hT) (sT ht) rfl (Nat.le_of_ble_eq_true rfl) ⟨Nat.le_of_ble_eq_true rfl, Nat.le_of_ble_eq_true rfl⟩ rfl (Nat.le_of_ble_eq_true rfl) (fun σ' z2 x2 => ?_)))
    obtain ⟨hs_, x2⟩ := x2
    rw [hs_]; clear hs_ σ'
    refine ok_aload_n 14 rfl rfl rfl (ok_getI 15 rfl rfl fl_X11_103 (sT ht) rfl (Or.inl rfl) (ok_callSI (M' := M_Jo_leastFullPower) (as := [_, _, _]) 16 rfl rfl ml_X11_279 (t_Jo_leastFullPower ⟨hT.1, hT.2.1⟩ x1 x2 (fun i j a b c d => (cT_bd hT ⟨a, by omega⟩ ⟨c, by omega⟩).1)) ⟨Nat.le_of_ble_eq_true rfl, Nat.le_of_ble_eq_true rfl⟩ rfl (Nat.le_of_ble_eq_true rfl) (fun σ' z3 x3 => ?_)))
    obtain ⟨hs_, x3⟩ := x3
    rw [hs_]; clear hs_ σ'
    refine ok_iret 17 rfl rfl rfl ?_
    exact ⟨_, rfl, rfl, Or.inr ⟨⟨q1, q2, q3⟩, x3⟩⟩
/-- a field of booleans says a relation, up to a place -/
def fdB (ρ : eS) (c : Nat) (n m : Int) (op : Int → Int → Prop) : Prop := ∀ i j, 0 ≤ i → i < n → 0 ≤ j → j < n → n * i + j < m → (ρ c (n * i + j) = 0 ∨ ρ c (n * i + j) = 1) ∧ (ρ c (n * i + j) = 1 ↔ op i j)
theorem fdB_s {ρ : eS} {c : Nat} {n i j v : Int} {op : Int → Int → Prop} (hn : 1 ≤ n ∧ n ≤ 8) (hi : 0 ≤ i ∧ i < n) (hj : 0 ≤ j ∧ j < n) (h : fdB ρ c n (n * i + j) op) (hv : v = 0 ∨ v = 1) (hv2 : v = 1 ↔ op i j) : fdB (up ρ c (n * i + j) v) c n (n * i + (j + 1)) op := fun x y a b d e l => by
  by_cases q : n * x + y = n * i + j
  · obtain ⟨q1, q2⟩ := ix_inj hn ⟨d, e⟩ hj q
    rw [q1, q2, up_same]
    exact ⟨hv, hv2⟩
  · rw [up_nk _ _ _ _ q]
    exact h x y a b d e (by omega)
theorem fdB_r {ρ : eS} {c : Nat} {n i : Int} {op : Int → Int → Prop} (h : fdB ρ c n (n * i + n) op) : fdB ρ c n (n * (i + 1)) op := by
  rw [Int.mul_add, Int.mul_one]
  exact h
theorem fdB_all {ρ : eS} {c : Nat} {n : Int} {op : Int → Int → Prop} (hn : 1 ≤ n ∧ n ≤ 8) (h : fdB ρ c n (n * n) op) {i j : Int} (hi : 0 ≤ i ∧ i < n) (hj : 0 ≤ j ∧ j < n) : (ρ c (n * i + j) = 0 ∨ ρ c (n * i + j) = 1) ∧ (ρ c (n * i + j) = 1 ↔ op i j) :=
  h i j hi.1 hi.2 hj.1 hj.2 (ix8 (n := n) (i := i) (j := j) ⟨by omega, hn.2⟩ hi hj).2.2.1
theorem fdB_lin {ρ : eS} {c : Nat} {n : Int} {f : Int → Prop} {op : Int → Int → Prop} (hn : 1 ≤ n ∧ n ≤ 8) (h : ∀ q, 0 ≤ q → q < n * n → (ρ c q = 0 ∨ ρ c q = 1) ∧ (ρ c q = 1 ↔ f q)) (e : ∀ i j, 0 ≤ i → i < n → 0 ≤ j → j < n → (f (n * i + j) ↔ op i j)) : fdB ρ c n (n * n) op := fun i j a b d g l => by
  have x := ix8 (n := n) (i := i) (j := j) ⟨by omega, hn.2⟩ ⟨a, b⟩ ⟨d, g⟩
  have y := h (n * i + j) (by omega) l
  exact ⟨y.1, y.2.trans (e i j a b d g)⟩
theorem fu_lin {ρ : eS} {c : Nat} {n : Int} {op : Int → Int → Prop} (hn : 1 ≤ n ∧ n ≤ 8) (h : fdB ρ c n (n * n) op) : (∀ q, 0 ≤ q → q < n * n → ρ c q = 1) ↔ fuR n op := by
  constructor
  · intro q i j a b d e
    have x := ix8 (n := n) (i := i) (j := j) ⟨by omega, hn.2⟩ ⟨a, b⟩ ⟨d, e⟩
    exact (fdB_all hn h ⟨a, b⟩ ⟨d, e⟩).2.mp (q _ (by omega) (by omega))
  · intro w q a b
    have g1 := Int.mul_ediv_add_emod q n
    have g2 := Int.emod_nonneg q (by omega : n ≠ 0)
    have g3 := Int.emod_lt_of_pos q (by omega : 0 < n)
    have g4 : q / n < n := Int.ediv_lt_of_lt_mul (by omega) (by omega)
    have g5 : 0 ≤ q / n := Int.ediv_nonneg a (by omega)
    have x := (fdB_all hn h ⟨g5, g4⟩ ⟨g2, g3⟩).2.mpr (w _ _ g5 g4 g2 g3)
    rw [g1] at x
    exact x
theorem bl_01 {ρ : eS} {c : Nat} {n q : Int} {op : Int → Int → Prop} (hn : 1 ≤ n ∧ n ≤ 8) (h : fdB ρ c n (n * n) op) (a : 0 ≤ q) (b : q < n * n) : ρ c q = 0 ∨ ρ c q = 1 := by
  have g1 := Int.mul_ediv_add_emod q n
  have g2 := Int.emod_nonneg q (by omega : n ≠ 0)
  have g3 := Int.emod_lt_of_pos q (by omega : 0 < n)
  have g4 : q / n < n := Int.ediv_lt_of_lt_mul (by omega) (by omega)
  have g5 : 0 ≤ q / n := Int.ediv_nonneg a (by omega)
  have x := (fdB_all hn h ⟨g5, g4⟩ ⟨g2, g3⟩).1
  rw [g1] at x
  exact x
theorem t_Mo_mixing {σ : eS} {s : Int} (hB : iB1 σ) : MtI shB M_Mo_mixing [vr 0, vi s] σ (fun σ' z => fr rgX σ σ' ∧ ((¬ tabB σ s ∧ z = -1) ∨ (tabB σ s ∧ mxG (σ 1 s) (cB σ s) z))) := by
  refine Mt.of okM_Mo_mixing (Nat.le_of_ble_eq_true rfl) (fun hk hg => ?_)
  refine ok_aload_n 0 rfl rfl rfl (ok_iload_n 1 rfl rfl rfl (ok_callVI (M' := M_Mo_isTable) (as := [_]) 2 rfl rfl ml_X12_111 (s_Mo_isTable_r) rfl rfl (Nat.le_of_ble_eq_true rfl) ⟨Nat.le_of_ble_eq_true rfl, Nat.le_of_ble_eq_true rfl⟩ rfl (Nat.le_of_ble_eq_true rfl) (fun σ' z1 a1 => ?_)))
  obtain ⟨hs_, a1⟩ := a1
  rw [hs_]; clear hs_ σ'
  refine ok_if_ne 3 10 rfl rfl rfl (fun h5 => ?_) (fun h5 => ?_)
  · obtain ⟨u1, u2, u3⟩ := yes1 a1 h5
    have tn := hB.1 s u1 u2
    have ht : tabB σ s := ⟨u1, u2, u3⟩
    refine ok_aload_n 6 rfl rfl rfl (ok_getR 7 rfl rfl fl_X12_7 rfl rfl (ok_iload_n 8 rfl rfl rfl (ok_iald 9 rfl rfl rfl (by first | omega | (simp [up_if]; omega) | (simp [up_if] at *; omega)) (ok_ist2 10 rfl rfl rfl (ok_iconst 11 rfl rfl (by decide) (ok_ist3 12 rfl rfl rfl ?_))))))
    obtain ⟨n, en⟩ : ∃ n, n = σ 1 s := ⟨_, rfl⟩
    rw [← en]
    have n1 : 1 ≤ n ∧ n ≤ 8 := by omega
    obtain ⟨q1, q2⟩ := sq8 (n := n) ⟨by omega, by omega⟩
    have E : ∀ τ : eS, fr rgX σ τ → iB1 τ ∧ τ 1 s = n ∧ (∀ k, τ 3 k = σ 3 k) ∧ cB τ s = cB σ s := fun τ g => by
      have e1 : τ 1 s = σ 1 s := g 1 s (by simp [rgX])
      have e3 : ∀ k, τ 3 k = σ 3 k := fun k => g 3 k (by simp [rgX])
      exact ⟨iB1_frS hB g (fun c k q => by simp only [rgX]; omega), by rw [e1, en], e3, by funext i j; unfold cB; rw [e1, e3]⟩
    refine lpO2 (fun (k : Int) (_ : eS) => [some (vr 0), some (vi s), some (vi n), some (vi k), none, none, none, none, none]) (fun _ ρ => ρ) (fun k ρ => 0 ≤ k ∧ k ≤ n * n ∧ fr rgX σ ρ ∧ ∀ q, 0 ≤ q → q < k → (ρ 21 q = 0 ∨ ρ 21 q = 1) ∧ (ρ 21 q = 1 ↔ 0 < σ 3 (64 * s + q))) (fun k _ => (n * n - k).toNat) ?_ 0 _ ⟨by omega, by omega, fr.rf, fun q a b => by omega⟩
    rintro k ρ ⟨k1, k2, f, hl⟩ ih
    have e3 := (E ρ f).2.2.1 (64 * s + k)
    refine ok_iload_n 13 rfl rfl rfl (ok_iload_n 14 rfl rfl rfl (ok_iload_n 15 rfl rfl rfl (ok_imul 16 rfl rfl (by first | omega | (simp [up_if]; omega) | (simp [up_if] at *; omega)) (ok_icmp_ge 17 57 rfl rfl rfl (fun h23 => ?_) (fun h23 => ?_)))))
    · refine ok_iconst 36 rfl rfl (by decide) (ok_ist3 37 rfl rfl rfl ?_)
      clear ih k1
      have ek : k = n * n := by omega
      rw [ek] at hl
      have hP : fdB ρ 21 n (n * n) (pwR n (cB σ s) 0) := fdB_lin n1 hl (fun i j a b c d => by show 0 < σ 3 (64 * s + (n * i + j)) ↔ 1 ≤ cB σ s i j; unfold cB; rw [← en, ← Int.add_assoc]; omega)
      clear ek k2 hl e3
      refine lpO2 (fun (k : Int) (_ : eS) => [some (vr 0), some (vi s), some (vi n), some (vi k), none, none, none, none, none]) (fun _ ρ => ρ) (fun k ρ => 1 ≤ k ∧ k ≤ 65 ∧ fr rgX σ ρ ∧ fdB ρ 21 n (n * n) (pwR n (cB σ s) (k - 1).toNat) ∧ ∀ q : Int, 1 ≤ q → q < k → ¬ fuR n (pwR n (cB σ s) (q - 1).toNat)) (fun k _ => (65 - k).toNat) ?_ 1 ρ ⟨by omega, by omega, f, hP, fun q a b => by omega⟩
      clear f hP h23 k ρ
      rintro k ρ ⟨k1, k2, f, hP, hno⟩ ih
      have fl := fu_lin n1 hP
      refine ok_iload_n 38 rfl rfl rfl (ok_bipush 39 rfl rfl (by decide) (by decide) (ok_icmp_gt 40 252 rfl rfl rfl (fun h62 => ?_) (fun h62 => ?_)))
      · refine ok_iconst 139 rfl rfl (by decide) (ok_iret 140 rfl rfl rfl ?_)
        exact ⟨_, rfl, f, Or.inr ⟨ht, Or.inl ⟨rfl, fun q a b => hno q a (by omega)⟩⟩⟩
      · refine ok_iconst 41 rfl rfl (by decide) (ok_ist4 42 rfl rfl rfl (ok_iconst 43 rfl rfl (by decide) (ok_ist5 44 rfl rfl rfl ?_)))
        refine lpO2 (fun (a i : Int) => [some (vr 0), some (vi s), some (vi n), some (vi k), some (vi a), some (vi i), none, none, none]) (fun _ _ => ρ) (fun a i => 0 ≤ i ∧ i ≤ n * n ∧ (a = 0 ∨ a = 1) ∧ (a = 1 ↔ ∀ q, 0 ≤ q → q < i → ρ 21 q = 1)) (fun _ i => (n * n - i).toNat) ?_ 1 0 ⟨by omega, by omega, by omega, fun _ q a b => by omega, fun _ => rfl⟩
        rintro a i ⟨i1, i2, i3, i4⟩ ih2
        refine ok_iload 45 rfl rfl rfl (ok_iload_n 46 rfl rfl rfl (ok_iload_n 47 rfl rfl rfl (ok_imul 48 rfl rfl (by first | omega | (simp [up_if]; omega) | (simp [up_if] at *; omega)) (ok_icmp_ge 49 107 rfl rfl rfl (fun h76 => ?_) (fun h76 => ?_)))))
        · refine ok_iload 63 rfl rfl rfl (ok_if_eq 64 114 rfl rfl rfl (fun h109 => ?_) (fun h109 => ?_))
          · refine ok_iconst 67 rfl rfl (by decide) (ok_ist5 68 rfl rfl rfl ?_)
            have ei : i = n * n := by omega
            rw [ei] at i4
            have hn0 : ¬ fuR n (pwR n (cB σ s) (k - 1).toNat) := fun y => by have := i4.mpr (fl.mpr y); omega
            clear ih2 i1 i2 i3 i4 ei
            obtain ⟨op, eop⟩ : ∃ op, op = pwR n (cB σ s) ((k - 1).toNat + 1) := ⟨_, rfl⟩
            have r21 : fr (fun c _ => c = 22) ρ ρ := fr.rf
            obtain ⟨R, eR⟩ : ∃ R, R = ρ := ⟨_, rfl⟩
            rw [← eR] at hP
            refine lpO2 (fun (i : Int) (_ : eS) => [some (vr 0), some (vi s), some (vi n), some (vi k), some (vi a), some (vi i), none, none, none]) (fun _ ρ => ρ) (fun i ρ => 0 ≤ i ∧ i ≤ n ∧ fr rgX σ ρ ∧ fr (fun c _ => c = 22) R ρ ∧ fdB ρ 22 n (n * i) op) (fun i _ => (n - i).toNat) ?_ 0 ρ ⟨by omega, by omega, f, by rw [eR]; exact fr.rf, fun x y c d e g l => by have := ix8 (n := n) (i := x) (j := y) ⟨by omega, by omega⟩ ⟨c, d⟩ ⟨e, g⟩; omega⟩
            clear f eR fl r21 h76 i ρ
            rintro i ρ ⟨i1, i2, f, fR, hz⟩ ih2
            refine ok_iload 69 rfl rfl rfl (ok_iload_n 70 rfl rfl rfl (ok_icmp_ge 71 215 rfl rfl rfl (fun h120 => ?_) (fun h120 => ?_)))
            · refine ok_iconst 120 rfl rfl (by decide) (ok_ist5 121 rfl rfl rfl ?_)
              have hz' : fdB ρ 22 n (n * n) op := by rw [show i = n by omega] at hz; exact hz
              clear ih2 i1 i2 hz fR
              obtain ⟨T, eT⟩ : ∃ T, T = ρ := ⟨_, rfl⟩
              rw [← eT] at hz'
              refine lpO2 (fun (i : Int) (_ : eS) => [some (vr 0), some (vi s), some (vi n), some (vi k), some (vi a), some (vi i), none, none, none]) (fun _ ρ => ρ) (fun i ρ => 0 ≤ i ∧ i ≤ n * n ∧ fr rgX σ ρ ∧ (∀ q, ρ 22 q = T 22 q) ∧ ∀ q, 0 ≤ q → q < i → ρ 21 q = T 22 q) (fun i _ => (n * n - i).toNat) ?_ 0 ρ ⟨by omega, by omega, f, fun q => by rw [eT], fun q a b => by omega⟩
              clear f eT ρ h120 i
              rintro i ρ ⟨i1, i2, f, fT, hq⟩ ih2
              refine ok_iload 122 rfl rfl rfl (ok_iload_n 123 rfl rfl rfl (ok_iload_n 124 rfl rfl rfl (ok_imul 125 rfl rfl (by first | omega | (simp [up_if]; omega) | (simp [up_if] at *; omega)) (ok_icmp_ge 126 246 rfl rfl rfl (fun h223 => ?_) (fun h223 => ?_)))))
              · refine ok_inc3 137 rfl rfl rfl (by first | omega | (simp [up_if]; omega) | (simp [up_if] at *; omega)) (ok_goto 138 59 rfl rfl rfl ?_)
                refine ok_fg [some (vr 0), some (vi s), some (vi n), some (vi (k + 1)), none, none, none, none, none] ⟨rfl, rfl, rfl, rfl, trivial⟩ (ih (k + 1) _ ⟨by omega, by omega, f, ?_, ?_⟩ (by omega))
                · rw [show (k + 1 - 1).toNat = (k - 1).toNat + 1 by omega, ← eop]
                  intro x y c d e g l
                  have bx := ix8 (n := n) (i := x) (j := y) ⟨by omega, by omega⟩ ⟨c, d⟩ ⟨e, g⟩
                  rw [hq _ (by omega) (by omega)]
                  exact hz' x y c d e g l
                · intro q c d
                  by_cases y : q = k
                  · rw [y]; exact hn0
                  · exact hno q c (by omega)
              · refine ok_aload_n 127 rfl rfl rfl (ok_getR 128 rfl rfl fl_X12_75 rfl rfl (ok_iload 129 rfl rfl rfl (ok_aload_n 130 rfl rfl rfl (ok_getR 131 rfl rfl fl_X12_79 rfl rfl (ok_iload 132 rfl rfl rfl (ok_zald 133 rfl rfl rfl (by first | omega | (simp [up_if]; omega) | (simp [up_if] at *; omega)) (ok_zast 134 rfl rfl rfl (by omega) (by rw [fT]; exact bl_01 n1 hz' i1 (by omega)) (ok_inc5 135 rfl rfl rfl (by first | omega | (simp [up_if]; omega) | (simp [up_if] at *; omega)) (ok_goto 136 218 rfl rfl rfl ?_)))))))))
                refine ih2 (i + 1) _ ⟨by omega, by omega, fr_up f (by simp [rgX]), fun q => by rw [up_ne _ _ _ _ (by decide)]; exact fT q, lt_ext (fun q a b => by rw [up_nk _ _ _ _ (by omega)]; exact hq q a b) ?_⟩ (by omega)
                rw [up_same, fT]
            · refine ok_iconst 72 rfl rfl (by decide) (ok_ist6 73 rfl rfl rfl ?_)
              refine lpO2 (fun (j : Int) (_ : eS) => [some (vr 0), some (vi s), some (vi n), some (vi k), some (vi a), some (vi i), some (vi j), none, none]) (fun _ ρ => ρ) (fun j ρ => 0 ≤ j ∧ j ≤ n ∧ fr rgX σ ρ ∧ fr (fun c _ => c = 22) R ρ ∧ fdB ρ 22 n (n * i + j) op) (fun j _ => (n - j).toNat) ?_ 0 ρ ⟨by omega, by omega, f, fR, by rw [Int.add_zero]; exact hz⟩
              clear f fR hz ρ
              rintro j ρ ⟨j1, j2, f, fR, hz⟩ ih3
              refine ok_iload 74 rfl rfl rfl (ok_iload_n 75 rfl rfl rfl (ok_icmp_ge 76 209 rfl rfl rfl (fun h129 => ?_) (fun h129 => ?_)))
              · refine ok_inc5 118 rfl rfl rfl (by first | omega | (simp [up_if]; omega) | (simp [up_if] at *; omega)) (ok_goto 119 117 rfl rfl rfl ?_)
                exact ok_fg [some (vr 0), some (vi s), some (vi n), some (vi k), some (vi a), some (vi (i + 1)), none, none, none] ⟨rfl, rfl, rfl, rfl, rfl, rfl, trivial⟩ (ih2 (i + 1) _ ⟨by omega, by omega, f, fR, fdB_r (by rw [show j = n by omega] at hz; exact hz)⟩ (by omega))
              · refine ok_iconst 77 rfl rfl (by decide) (ok_ist7 78 rfl rfl rfl (ok_iconst 79 rfl rfl (by decide) (ok_ist8 80 rfl rfl rfl ?_)))
                obtain ⟨eb, e1, e3, ec⟩ := E ρ f
                refine lpO2 (fun (v m : Int) => [some (vr 0), some (vi s), some (vi n), some (vi k), some (vi a), some (vi i), some (vi j), some (vi v), some (vi m)]) (fun _ _ => ρ) (fun v m => 0 ≤ m ∧ m ≤ n ∧ (v = 0 ∨ v = 1) ∧ (v = 1 ↔ ∃ q, 0 ≤ q ∧ q < m ∧ pwR n (cB σ s) (k - 1).toNat i q ∧ 1 ≤ cB σ s q j)) (fun _ m => (n - m).toNat) ?_ 0 0 ⟨by omega, by omega, by omega, fun y => absurd y (by decide), fun ⟨q, a, b, _⟩ => by omega⟩
                rintro v m ⟨m1, m2, m3, m4⟩ ih4
                have bi := ix8 (n := n) (i := i) (j := j) ⟨by omega, by omega⟩ ⟨by omega, by omega⟩ ⟨by omega, by omega⟩
                have old : (∃ q, 0 ≤ q ∧ q < m ∧ pwR n (cB σ s) (k - 1).toNat i q ∧ 1 ≤ cB σ s q j) → (∃ q, 0 ≤ q ∧ q < m + 1 ∧ pwR n (cB σ s) (k - 1).toNat i q ∧ 1 ≤ cB σ s q j) := fun ⟨q, a, b, c⟩ => ⟨q, a, by omega, c⟩
                refine ok_iload 81 rfl rfl rfl (ok_iload_n 82 rfl rfl rfl (ok_icmp_ge 83 189 rfl rfl rfl (fun h141 => ?_) (fun h141 => ?_)))
                · refine ok_aload_n 107 rfl rfl rfl (ok_getR 108 rfl rfl fl_X12_79 rfl rfl (ok_iload_n 109 rfl rfl rfl (ok_iload 110 rfl rfl rfl (ok_imul 111 rfl rfl (by first | omega | (simp [up_if]; omega) | (simp [up_if] at *; omega)) (ok_iload 112 rfl rfl rfl (ok_iadd 113 rfl rfl (by first | omega | (simp [up_if]; omega) | (simp [up_if] at *; omega)) (ok_iload 114 rfl rfl rfl (ok_zast 115 rfl rfl rfl (by first | omega | (simp [up_if]; omega) | (simp [up_if] at *; omega)) (by first | omega | (simp [up_if]; omega) | (simp [up_if] at *; omega)) (ok_inc6 116 rfl rfl rfl (by first | omega | (simp [up_if]; omega) | (simp [up_if] at *; omega)) (ok_goto 117 126 rfl rfl rfl ?_))))))))))
                  have em : m = n := by omega
                  rw [em] at m4
                  refine ok_fg [some (vr 0), some (vi s), some (vi n), some (vi k), some (vi a), some (vi i), some (vi (j + 1)), none, none] ⟨rfl, rfl, rfl, rfl, rfl, rfl, rfl, trivial⟩ (ih3 (j + 1) _ ⟨by omega, by omega, fr_up f (by simp [rgX]), fr_up fR rfl, fdB_s n1 ⟨by omega, by omega⟩ ⟨by omega, by omega⟩ hz m3 ?_⟩ (by omega))
                  rw [eop]
                  exact m4
                · have bm := ix8 (n := n) (i := i) (j := m) ⟨by omega, by omega⟩ ⟨by omega, by omega⟩ ⟨by omega, by omega⟩
                  have rm := fdB_all n1 hP (i := i) (j := m) ⟨by omega, by omega⟩ ⟨m1, by omega⟩
                  rw [← fR 21 (n * i + m) (by omega)] at rm
                  refine ok_iload 84 rfl rfl rfl (ok_if_ne 85 176 rfl rfl rfl (fun h146 => ?_) (fun h146 => ?_))
                  · refine ok_iconst 101 rfl rfl (by decide) (ok_goto 102 181 rfl rfl rfl (ok_ist7 104 rfl rfl rfl (ok_inc8 105 rfl rfl rfl (by first | omega | (simp [up_if]; omega) | (simp [up_if] at *; omega)) (ok_goto 106 138 rfl rfl rfl ?_))))
                    exact ih4 _ (m + 1) ⟨by omega, by omega, by omega, fun _ => old (m4.mp (by omega)), fun _ => rfl⟩ (by omega)
                  · refine ok_aload_n 86 rfl rfl rfl (ok_getR 87 rfl rfl fl_X12_75 rfl rfl (ok_iload_n 88 rfl rfl rfl (ok_iload 89 rfl rfl rfl (ok_imul 90 rfl rfl (by first | omega | (simp [up_if]; omega) | (simp [up_if] at *; omega)) (ok_iload 91 rfl rfl rfl (ok_iadd 92 rfl rfl (by first | omega | (simp [up_if]; omega) | (simp [up_if] at *; omega)) (ok_zald 93 rfl rfl rfl (by first | omega | (simp [up_if]; omega) | (simp [up_if] at *; omega)) (ok_if_eq 94 180 rfl rfl rfl (fun h161 => ?_) (fun h161 => ?_)))))))))
                    · refine ok_iconst 103 rfl rfl (by decide) (ok_ist7 104 rfl rfl rfl (ok_inc8 105 rfl rfl rfl (by first | omega | (simp [up_if]; omega) | (simp [up_if] at *; omega)) (ok_goto 106 138 rfl rfl rfl ?_)))
                      refine ih4 _ (m + 1) ⟨by omega, by omega, by omega, fun y => absurd y (by decide), fun ⟨q, a, b, c, d⟩ => ?_⟩ (by omega)
                      exfalso
                      rcases (by omega : q < m ∨ q = m) with w | w
                      · have := m4.mpr ⟨q, a, w, c, d⟩; omega
                      · rw [w] at c; have := rm.2.mpr c; omega
                    · refine ok_aload_n 95 rfl rfl rfl (ok_iload_n 96 rfl rfl rfl (ok_iload 97 rfl rfl rfl (ok_iload 98 rfl rfl rfl (ok_callVI (M' := M_Mo_at) (as := [_, _, _]) 99 rfl rfl ml_X12_107 (s_Mo_at eb ⟨u1, u2⟩ ⟨by omega, by omega⟩ ⟨by omega, by omega⟩) rfl rfl (Nat.le_of_ble_eq_true rfl) ⟨Nat.le_of_ble_eq_true rfl, Nat.le_of_ble_eq_true rfl⟩ rfl (Nat.le_of_ble_eq_true rfl) (fun σ' z hz => ?_)))))
                      rw [hz.1, hz.2, ec]; clear hz z σ'
                      refine ok_if_le 100 180 rfl rfl rfl (fun h173 => ?_) (fun h173 => ?_)
                      · refine ok_iconst 103 rfl rfl (by decide) (ok_ist7 104 rfl rfl rfl (ok_inc8 105 rfl rfl rfl (by first | omega | (simp [up_if]; omega) | (simp [up_if] at *; omega)) (ok_goto 106 138 rfl rfl rfl ?_)))
                        refine ih4 _ (m + 1) ⟨by omega, by omega, by omega, fun y => absurd y (by decide), fun ⟨q, a, b, c, d⟩ => ?_⟩ (by omega)
                        exfalso
                        rcases (by omega : q < m ∨ q = m) with w | w
                        · have := m4.mpr ⟨q, a, w, c, d⟩; omega
                        · rw [w] at d; omega
                      · refine ok_iconst 101 rfl rfl (by decide) (ok_goto 102 181 rfl rfl rfl (ok_ist7 104 rfl rfl rfl (ok_inc8 105 rfl rfl rfl (by first | omega | (simp [up_if]; omega) | (simp [up_if] at *; omega)) (ok_goto 106 138 rfl rfl rfl ?_))))
                        exact ih4 _ (m + 1) ⟨by omega, by omega, by omega, fun _ => ⟨m, m1, by omega, rm.2.mp (by omega), by omega⟩, fun _ => rfl⟩ (by omega)
          · refine ok_iload_n 65 rfl rfl rfl (ok_iret 66 rfl rfl rfl ?_)
            have ei : i = n * n := by omega
            rw [ei] at i4
            exact ⟨_, rfl, f, Or.inr ⟨ht, Or.inr ⟨⟨k1, by omega⟩, fl.mp (i4.mp (by omega)), hno⟩⟩⟩
        · refine ok_iload 50 rfl rfl rfl (ok_if_eq 51 98 rfl rfl rfl (fun h81 => ?_) (fun h81 => ?_))
          · refine ok_iconst 59 rfl rfl (by decide) (ok_ist4 60 rfl rfl rfl (ok_inc5 61 rfl rfl rfl (by first | omega | (simp [up_if]; omega) | (simp [up_if] at *; omega)) (ok_goto 62 71 rfl rfl rfl ?_)))
            refine ih2 _ (i + 1) ⟨by omega, by omega, by omega, ?_⟩ (by omega)
            first
              | (refine ⟨fun _ => lt_ext (i4.mp (by omega)) ?_, fun _ => rfl⟩
                 have := bl_01 n1 hP i1 (by omega)
                 omega)
              | (refine ⟨fun y => absurd y (by decide), fun y => ?_⟩
                 exfalso
                 have y1 := y i i1 (by omega)
                 have y2 := i4.mpr (fun q c d => y q c (by omega))
                 omega)
          · refine ok_aload_n 52 rfl rfl rfl (ok_getR 53 rfl rfl fl_X12_75 rfl rfl (ok_iload 54 rfl rfl rfl (ok_zald 55 rfl rfl rfl (by first | omega | (simp [up_if]; omega) | (simp [up_if] at *; omega)) (ok_if_eq 56 98 rfl rfl rfl (fun h91 => ?_) (fun h91 => ?_)))))
            · refine ok_iconst 59 rfl rfl (by decide) (ok_ist4 60 rfl rfl rfl (ok_inc5 61 rfl rfl rfl (by first | omega | (simp [up_if]; omega) | (simp [up_if] at *; omega)) (ok_goto 62 71 rfl rfl rfl ?_)))
              refine ih2 _ (i + 1) ⟨by omega, by omega, by omega, ?_⟩ (by omega)
              first
                | (refine ⟨fun _ => lt_ext (i4.mp (by omega)) ?_, fun _ => rfl⟩
                   have := bl_01 n1 hP i1 (by omega)
                   omega)
                | (refine ⟨fun y => absurd y (by decide), fun y => ?_⟩
                   exfalso
                   have y1 := y i i1 (by omega)
                   have y2 := i4.mpr (fun q c d => y q c (by omega))
                   omega)
            · refine ok_iconst 57 rfl rfl (by decide) (ok_goto 58 99 rfl rfl rfl (ok_ist4 60 rfl rfl rfl (ok_inc5 61 rfl rfl rfl (by first | omega | (simp [up_if]; omega) | (simp [up_if] at *; omega)) (ok_goto 62 71 rfl rfl rfl ?_))))
              refine ih2 _ (i + 1) ⟨by omega, by omega, by omega, ?_⟩ (by omega)
              first
                | (refine ⟨fun _ => lt_ext (i4.mp (by omega)) ?_, fun _ => rfl⟩
                   have := bl_01 n1 hP i1 (by omega)
                   omega)
                | (refine ⟨fun y => absurd y (by decide), fun y => ?_⟩
                   exfalso
                   have y1 := y i i1 (by omega)
                   have y2 := i4.mpr (fun q c d => y q c (by omega))
                   omega)
    · refine ok_aload_n 18 rfl rfl rfl (ok_getR 19 rfl rfl fl_X12_75 rfl rfl (ok_iload_n 20 rfl rfl rfl (ok_aload_n 21 rfl rfl rfl (ok_getR 22 rfl rfl fl_X12_16 rfl rfl (ok_bipush 23 rfl rfl (by decide) (by decide) (ok_iload_n 24 rfl rfl rfl (ok_imul 25 rfl rfl (by first | omega | (simp [up_if]; omega) | (simp [up_if] at *; omega)) (ok_iload_n 26 rfl rfl rfl (ok_iadd 27 rfl rfl (by first | omega | (simp [up_if]; omega) | (simp [up_if] at *; omega)) (ok_iald 28 rfl rfl rfl (by first | omega | (simp [up_if]; omega) | (simp [up_if] at *; omega)) (ok_if_le 29 49 rfl rfl rfl (fun h42 => ?_) (fun h42 => ?_))))))))))))
      · refine ok_iconst 32 rfl rfl (by decide) (ok_zast 33 rfl rfl rfl (by first | omega | (simp [up_if]; omega) | (simp [up_if] at *; omega)) (by first | omega | (simp [up_if]; omega) | (simp [up_if] at *; omega)) (ok_inc3 34 rfl rfl rfl (by first | omega | (simp [up_if]; omega) | (simp [up_if] at *; omega)) (ok_goto 35 19 rfl rfl rfl ?_)))
        refine ih (k + 1) _ ⟨by omega, by omega, fr_up f (by simp [rgX]), lt_ext (fun q a b => by rw [up_nk _ _ _ _ (by omega)]; exact hl q a b) ?_⟩ (by omega)
        rw [up_same]
        omega
      · refine ok_iconst 30 rfl rfl (by decide) (ok_goto 31 50 rfl rfl rfl (ok_zast 33 rfl rfl rfl (by first | omega | (simp [up_if]; omega) | (simp [up_if] at *; omega)) (by first | omega | (simp [up_if]; omega) | (simp [up_if] at *; omega)) (ok_inc3 34 rfl rfl rfl (by first | omega | (simp [up_if]; omega) | (simp [up_if] at *; omega)) (ok_goto 35 19 rfl rfl rfl ?_))))
        refine ih (k + 1) _ ⟨by omega, by omega, fr_up f (by simp [rgX]), lt_ext (fun q a b => by rw [up_nk _ _ _ _ (by omega)]; exact hl q a b) ?_⟩ (by omega)
        rw [up_same]
        omega
  · refine ok_iconst 4 rfl rfl (by decide) (ok_iret 5 rfl rfl rfl ?_)
    exact ⟨_, rfl, fr.rf, Or.inl ⟨no1 a1 h5, rfl⟩⟩
end
section
/-! KIN: what can be reached, by rounds and by Warshall's way -/
def RS (n : Int) (W : Int → Int → Int) (a : Int) : Nat → Int → Prop
  | 0 => fun c => c = a
  | m + 1 => fun c => RS n W a m c ∨ (c < n ∧ ∃ r, 0 ≤ r ∧ r < n ∧ RS n W a m r ∧ 1 ≤ W r c)
def RT (n : Int) (W : Int → Int → Int) (a c : Int) : Prop := ∃ m, RS n W a m c
section K12
variable {n a b c : Int} {W V : Int → Int → Int}
theorem RS_le {m : Nat} : ∀ {k : Nat}, RS n W a m c → RS n W a (m + k) c
  | 0, h => h
  | _ + 1, h => Or.inl (RS_le h)
theorem stab {m : Nat} (h : ∀ c, 0 ≤ c → c < n → RS n W a (m + 1) c → RS n W a m c) (ha : 0 ≤ a ∧ a < n) : ∀ (k : Nat) (c : Int), 0 ≤ c → RS n W a (m + k) c → RS n W a m c
  | 0, _, _, q => q
  | k + 1, c, hc, q => by
    rcases q with q | ⟨q1, r, q2, q3, q4, q5⟩
    · exact stab h ha k c hc q
    · exact h c hc q1 (Or.inr ⟨q1, r, q2, q3, stab h ha k r q2 q4, q5⟩)
noncomputable def cn (n : Int) (W : Int → Int → Int) (a : Int) (m : Nat) : Int := sm (fun c => @ite Int (RS n W a m c) (Classical.propDecidable _) 1 0) n.toNat
theorem cn_bd (hn : 0 ≤ n) (m : Nat) : cn n W a m ≤ n := by
  have := sm_bd (f := fun c => @ite Int (RS n W a m c) (Classical.propDecidable _) 1 0) (B := 1) (by decide) (n := n.toNat) (fun k _ _ => by (try dsimp only); split <;> omega)
  unfold cn
  omega
theorem cn_s {m : Nat} (h : ¬ ∀ c, 0 ≤ c → c < n → RS n W a (m + 1) c → RS n W a m c) : cn n W a m + 1 ≤ cn n W a (m + 1) := by
  obtain ⟨c, hc⟩ := Classical.not_forall.mp h
  obtain ⟨c1, hc⟩ := Classical.not_imp.mp hc
  obtain ⟨c2, hc⟩ := Classical.not_imp.mp hc
  obtain ⟨c3, c4⟩ := Classical.not_imp.mp hc
  unfold cn
  refine sm_less (x := c) (fun k p q => ?_) c1 (by omega) ?_
  · by_cases w : RS n W a m k
    · rw [if_pos w, if_pos (show RS n W a (m + 1) k from Or.inl w)]; exact Int.le_refl _
    · rw [if_neg w]; split <;> omega
  · rw [if_neg c4, if_pos c3]; decide
theorem cn_0 (ha : 0 ≤ a ∧ a < n) : 1 ≤ cn n W a 0 := by
  have := sm_le (f := fun c => @ite Int (RS n W a 0 c) (Classical.propDecidable _) 1 0) (n := n.toNat) (fun k _ _ => by (try dsimp only); split <;> omega) a ha.1 (by omega)
  try dsimp only at this
  rw [if_pos (show RS n W a 0 a from rfl)] at this
  unfold cn
  exact this
theorem some_st (ha : 0 ≤ a ∧ a < n) : ∀ m : Nat, (∃ k, k < m ∧ ∀ c, 0 ≤ c → c < n → RS n W a (k + 1) c → RS n W a k c) ∨ (m : Int) + 1 ≤ cn n W a m
  | 0 => Or.inr (by have := cn_0 (n := n) (W := W) ha; omega)
  | m + 1 => by
    rcases some_st ha m with ⟨k, h1, h2⟩ | h
    · exact Or.inl ⟨k, by omega, h2⟩
    · by_cases q : ∀ c, 0 ≤ c → c < n → RS n W a (m + 1) c → RS n W a m c
      · exact Or.inl ⟨m, by omega, q⟩
      · have := cn_s q
        exact Or.inr (by omega)
/-- n rounds are enough -/
theorem RS_n (ha : 0 ≤ a ∧ a < n) (hc : 0 ≤ c) : RS n W a n.toNat c ↔ RT n W a c := by
  refine ⟨fun h => ⟨_, h⟩, fun ⟨m, h⟩ => ?_⟩
  rcases some_st (W := W) ha n.toNat with ⟨k, h1, h2⟩ | q
  · have x := RS_le (k := k) h
    rw [Nat.add_comm m k] at x
    have y := stab h2 ha m c hc x
    have z := RS_le (k := n.toNat - k) y
    rwa [show k + (n.toNat - k) = n.toNat by omega] at z
  · have := cn_bd (n := n) (W := W) (a := a) (by omega) n.toNat
    omega
theorem RT_tr (h : RT n W a b) : ∀ (m : Nat) (c : Int), RS n W b m c → RT n W a c
  | 0, c, q => by
    have q : c = b := q
    rw [q]; exact h
  | m + 1, c, q => by
    rcases q with q | ⟨q1, r, q2, q3, q4, q5⟩
    · exact RT_tr h m c q
    · obtain ⟨k, hk⟩ := RT_tr h m r q4
      exact ⟨k + 1, Or.inr ⟨q1, r, q2, q3, hk, q5⟩⟩
theorem RS_cg (e : ag n W V) (ha : 0 ≤ a ∧ a < n) : ∀ (m : Nat) (c : Int), 0 ≤ c → RS n W a m c → RS n V a m c
  | 0, _, _, q => q
  | m + 1, c, hc, q => by
    rcases q with q | ⟨q1, r, q2, q3, q4, q5⟩
    · exact Or.inl (RS_cg e ha m c hc q)
    · exact Or.inr ⟨q1, r, q2, q3, RS_cg e ha m r q2 q4, by rw [← e r c q2 q3 hc q1]; exact q5⟩
theorem RT_cg (e : ag n W V) (ha : 0 ≤ a ∧ a < n) (hc : 0 ≤ c) : RT n W a c ↔ RT n V a c := ⟨fun ⟨m, h⟩ => ⟨m, RS_cg e ha m c hc h⟩, fun ⟨m, h⟩ => ⟨m, RS_cg e.sy ha m c hc h⟩⟩
end K12
/-- by way of the first k alone -/
def WP (W : Int → Int → Int) : Nat → Int → Int → Prop
  | 0 => fun i j => i = j ∨ 1 ≤ W i j
  | k + 1 => fun i j => WP W k i j ∨ (WP W k i (k : Int) ∧ WP W k (k : Int) j)
section K12b
variable {n : Int} {W : Int → Int → Int}
theorem WP_le {k : Nat} {i j : Int} : ∀ {d : Nat}, WP W k i j → WP W (k + d) i j
  | 0, h => h
  | _ + 1, h => Or.inl (WP_le h)
theorem WP_k1 {k : Nat} {i : Int} : WP W (k + 1) i (k : Int) ↔ WP W k i (k : Int) := ⟨fun h => by
  rcases h with h | h
  · exact h
  · exact h.1, Or.inl⟩
theorem WP_k2 {k : Nat} {j : Int} : WP W (k + 1) (k : Int) j ↔ WP W k (k : Int) j := ⟨fun h => by
  rcases h with h | h
  · exact h
  · exact h.2, Or.inl⟩
theorem WP_tr {k : Nat} : ∀ (d : Nat) (i j : Int), WP W (k + 1 + d) i (k : Int) → WP W (k + 1 + d) (k : Int) j → WP W (k + 1 + d) i j
  | 0, i, j, h, g => Or.inr ⟨WP_k1.mp h, WP_k2.mp g⟩
  | d + 1, i, j, h, g => by
    rcases h with h | ⟨h1, h2⟩ <;> rcases g with g | ⟨g1, g2⟩
    · exact Or.inl (WP_tr d i j h g)
    · exact Or.inr ⟨WP_tr d i _ h g1, g2⟩
    · exact Or.inr ⟨h1, WP_tr d _ j h2 g⟩
    · exact Or.inr ⟨h1, g2⟩
theorem WP_RT : ∀ (k : Nat) (i j : Int), (k : Int) ≤ n → 0 ≤ i → i < n → 0 ≤ j → j < n → WP W k i j → RT n W i j
  | 0, i, j, _, i1, i2, j1, j2, h => by
    rcases h with h | h
    · exact ⟨0, h.symm⟩
    · exact ⟨1, Or.inr ⟨j2, i, i1, i2, rfl, h⟩⟩
  | k + 1, i, j, hk, i1, i2, j1, j2, h => by
    rcases h with h | ⟨h1, h2⟩
    · exact WP_RT k i j (by omega) i1 i2 j1 j2 h
    · obtain ⟨m, hm⟩ := WP_RT k (k : Int) j (by omega) (by omega) (by omega) j1 j2 h2
      exact RT_tr (WP_RT k i (k : Int) (by omega) i1 i2 (by omega) (by omega) h1) m j hm
theorem RS_WP {i : Int} (hi : 0 ≤ i ∧ i < n) : ∀ (m : Nat) (j : Int), 0 ≤ j → RS n W i m j → WP W n.toNat i j
  | 0, j, _, h => by
    have x : WP W 0 i j := Or.inl (Eq.symm h)
    have y := WP_le (d := n.toNat) x
    rwa [Nat.zero_add] at y
  | m + 1, j, hj, h => by
    rcases h with h | ⟨h1, r, h2, h3, h4, h5⟩
    · exact RS_WP hi m j hj h
    · have x := RS_WP hi m r h2 h4
      have y : WP W 0 r j := Or.inr h5
      have y := WP_le (d := n.toNat) y
      rw [Nat.zero_add] at y
      have e : n.toNat = r.toNat + 1 + (n.toNat - r.toNat - 1) := by omega
      have er : ((r.toNat : Nat) : Int) = r := Int.toNat_of_nonneg h2
      rw [e] at x y ⊢
      exact WP_tr _ i j (by rw [er]; exact x) (by rw [er]; exact y)
theorem WP_iff {i j : Int} (hi : 0 ≤ i ∧ i < n) (hj : 0 ≤ j ∧ j < n) : WP W n.toNat i j ↔ RT n W i j := ⟨fun h => WP_RT n.toNat i j (by omega) hi.1 hi.2 hj.1 hj.2 h, fun ⟨m, h⟩ => RS_WP hi m j hj.1 h⟩
end K12b
def kiS (n : Int) (W : Int → Int → Int) (r z : Int) : Prop := (0 ≤ z ∧ z < 256) ∧ ∀ c : Int, 0 ≤ c → c < 8 → (bt z c = true ↔ (c < n ∧ RT n W r c ∧ RT n W c r))
theorem kiS_un {n r z z' : Int} {W V : Int → Int → Int} (hn : n ≤ 8) (e : ag n W V) (hr : 0 ≤ r ∧ r < n) (h : kiS n W r z) (h' : kiS n V r z') : z = z' := bt_ext h.1 h'.1 (fun c a b => by
  have x : bt z c = true ↔ bt z' c = true := by
    rw [h.2 c a b, h'.2 c a b]
    constructor
    · rintro ⟨p, q, w⟩; exact ⟨p, (RT_cg e hr a).mp q, (RT_cg e ⟨a, p⟩ hr.1).mp w⟩
    · rintro ⟨p, q, w⟩; exact ⟨p, (RT_cg e hr a).mpr q, (RT_cg e ⟨a, p⟩ hr.1).mpr w⟩
  cases q : bt z c <;> cases q' : bt z' c <;> simp_all)
theorem ior0_f : ∀ j : Fin 8, ior 0 (ishl 1 (j.val : Int)) = ishl 1 (j.val : Int) := by decide +kernel
theorem ior0 {j : Int} (h : 0 ≤ j ∧ j < 8) : ior 0 (ishl 1 j) = ishl 1 j := by
  have := ior0_f ⟨j.toNat, by omega⟩
  rwa [show (((⟨j.toNat, by omega⟩ : Fin 8).val : Nat) : Int) = j by show ((j.toNat : Nat) : Int) = j; omega] at this
theorem ior_z_f : ∀ s : Fin 256, ∀ j : Fin 8, ior (s.val : Int) (ishl 0 (j.val : Int)) = (s.val : Int) := by decide +kernel
theorem ior_z {s j : Int} (h1 : 0 ≤ s ∧ s < 256) (h2 : 0 ≤ j ∧ j < 8) : ior s (ishl 0 j) = s := fin2 (P := fun s j => ior s (ishl 0 j) = s) ior_z_f h1.1 h1.2 h2.1 h2.2
theorem t_Jo_reachedFrom {σ : eS} {J r n : Int} {W : Int → Int → Int} (hn : 0 ≤ n ∧ n ≤ 8) (hr : 0 ≤ r ∧ r < n) (hJ : jOf J n (fun i j => 1 ≤ W i j)) : MtI shA M_Jo_reachedFrom [vl J, vi r, vi n] σ (fun σ' z => σ' = σ ∧ (0 ≤ z ∧ z < 256) ∧ ∀ c : Int, 0 ≤ c → c < 8 → (bt z c = true ↔ RT n W r c)) := by
  refine Mt.of okM_Jo_reachedFrom (Nat.le_of_ble_eq_true rfl) (fun hk hg => ?_)
  have o0 := or8 (s := 0) (j := r) ⟨by omega, by omega⟩ ⟨hr.1, by omega⟩
  have p0 := bitP (s := 0) (j := r) ⟨by omega, by omega⟩ ⟨hr.1, by omega⟩
  have i0 : ior 0 (ishl 1 r) = ishl 1 r := ior0 ⟨hr.1, by omega⟩
  rw [i0] at o0 p0
  refine ok_iconst 0 rfl rfl (by decide) (ok_iload_n 1 rfl rfl rfl (ok_ishl 2 rfl rfl (ok_ist4 3 rfl rfl rfl (ok_iconst 4 rfl rfl (by decide) (ok_ist5 5 rfl rfl rfl ?_)))))
  refine lpO2 (fun v i : Int => [some (vl J), none, some (vi r), some (vi n), some (vi v), some (vi i)]) (fun _ _ => σ) (fun v i => 0 ≤ i ∧ i ≤ n ∧ (0 ≤ v ∧ v < 256) ∧ ∀ c : Int, 0 ≤ c → c < 8 → (bt v c = true ↔ RS n W r i.toNat c)) (fun _ i => (8 - i).toNat) ?_ _ 0 ⟨by omega, by omega, o0, fun c a b => by rw [p0, bt_sB' hr.1 a, bt_0]; exact ⟨fun q => by rcases q with q | q; cases q; exact q, fun q => Or.inr q⟩⟩
  rintro v i ⟨i1, i2, v1, v2⟩ ih
  refine ok_iload 6 rfl rfl rfl (ok_iload_n 7 rfl rfl rfl (ok_icmp_ge 8 32 rfl rfl rfl (fun h11 => ?_) (fun h11 => ?_)))
  · refine ok_iload 18 rfl rfl rfl (ok_iret 19 rfl rfl rfl ?_)
    refine ⟨_, rfl, rfl, v1, fun c a b => ?_⟩
    rw [v2 c a b, show i = n by omega]
    exact RS_n hr a
  · refine ok_iload 9 rfl rfl rfl (ok_lload_n 10 rfl rfl rfl (ok_iload 11 rfl rfl rfl (ok_iload_n 12 rfl rfl rfl (ok_callSI (M' := M_Jo_columnsOf) (as := [_, _, _]) 13 rfl rfl ml_X1_25 (t_Jo_columnsOf hn v1) ⟨Nat.le_of_ble_eq_true rfl, Nat.le_of_ble_eq_true rfl⟩ rfl (Nat.le_of_ble_eq_true rfl) (fun σ' z hz => ?_)))))
    obtain ⟨hs_, hz⟩ := hz
    rw [hs_]; clear hs_ σ'
    obtain ⟨z1, z2⟩ := cOf_op hn.2 hJ hz
    have os := ior_sp v1 z1
    refine ok_ior 14 rfl rfl (ok_ist4 15 rfl rfl rfl (ok_inc5 16 rfl rfl rfl (by first | omega | (simp [up_if]; omega) | (simp [up_if] at *; omega)) (ok_goto 17 8 rfl rfl rfl ?_)))
    refine ih _ (i + 1) ⟨by omega, by omega, os.1, fun c a b => ?_⟩ (by omega)
    rw [os.2 c a b, Bool.or_eq_true, v2 c a b, z2 c a b, show (i + 1).toNat = i.toNat + 1 by omega]
    constructor
    · rintro (q | ⟨q1, k, k1, k2, k3, k4⟩)
      · exact Or.inl q
      · exact Or.inr ⟨q1, k, k1, k2, (v2 k k1 (by omega)).mp k3, k4⟩
    · rintro (q | ⟨q1, k, k1, k2, k3, k4⟩)
      · exact Or.inl q
      · exact Or.inr ⟨q1, k, k1, k2, (v2 k k1 (by omega)).mpr k3, k4⟩
theorem t_Jo_kinOf {σ : eS} {J r n : Int} {W : Int → Int → Int} (hn : 0 ≤ n ∧ n ≤ 8) (hr : 0 ≤ r ∧ r < n) (hJ : jOf J n (fun i j => 1 ≤ W i j)) : MtI shA M_Jo_kinOf [vl J, vi r, vi n] σ (fun σ' z => σ' = σ ∧ kiS n W r z) := by
  refine Mt.of okM_Jo_kinOf (Nat.le_of_ble_eq_true rfl) (fun hk hg => ?_)
  refine ok_lload_n 0 rfl rfl rfl (ok_iload_n 1 rfl rfl rfl (ok_iload_n 2 rfl rfl rfl (ok_callSI (M' := M_Jo_reachedFrom) (as := [_, _, _]) 3 rfl rfl ml_X1_37 (t_Jo_reachedFrom hn hr hJ) ⟨Nat.le_of_ble_eq_true rfl, Nat.le_of_ble_eq_true rfl⟩ rfl (Nat.le_of_ble_eq_true rfl) (fun σ' R hR => ?_))))
  obtain ⟨hs_, hR⟩ := hR
  rw [hs_]; clear hs_ σ'
  refine ok_ist4 4 rfl rfl rfl (ok_iconst 5 rfl rfl (by decide) (ok_ist5 6 rfl rfl rfl (ok_iconst 7 rfl rfl (by decide) (ok_ist6 8 rfl rfl rfl ?_))))
  obtain ⟨R1, R2⟩ := hR
  refine lpO2 (fun v i : Int => [some (vl J), none, some (vi r), some (vi n), some (vi R), some (vi v), some (vi i)]) (fun _ _ => σ) (fun v i => 0 ≤ i ∧ i ≤ n ∧ (0 ≤ v ∧ v < 256) ∧ ∀ c : Int, 0 ≤ c → c < 8 → (bt v c = true ↔ (c < i ∧ RT n W r c ∧ RT n W c r))) (fun _ i => (8 - i).toNat) ?_ 0 0 ⟨by omega, by omega, ⟨by omega, by omega⟩, fun c a b => by rw [bt_0]; constructor; intro q; cases q; intro q; omega⟩
  rintro v i ⟨i1, i2, v1, v2⟩ ih
  have nx : ∀ v', (0 ≤ v' ∧ v' < 256) → (∀ c : Int, 0 ≤ c → c < 8 → (bt v' c = true ↔ (bt v c = true ∨ (c = i ∧ RT n W r i ∧ RT n W i r)))) → ∀ c : Int, 0 ≤ c → c < 8 → (bt v' c = true ↔ (c < i + 1 ∧ RT n W r c ∧ RT n W c r)) := fun v' _ e c a b => by
    rw [e c a b, v2 c a b]
    constructor
    · rintro (q | ⟨q, q1, q2⟩)
      · exact ⟨by omega, q.2⟩
      · subst q; exact ⟨by omega, q1, q2⟩
    · rintro ⟨q, q1, q2⟩
      by_cases w : c = i
      · subst w; exact Or.inr ⟨rfl, q1, q2⟩
      · exact Or.inl ⟨by omega, q1, q2⟩
  refine ok_iload 9 rfl rfl rfl (ok_iload_n 10 rfl rfl rfl (ok_icmp_ge 11 59 rfl rfl rfl (fun h17 => ?_) (fun h17 => ?_)))
  · refine ok_iload 35 rfl rfl rfl (ok_iret 36 rfl rfl rfl ?_)
    exact ⟨_, rfl, rfl, v1, fun c a b => by rw [v2 c a b, show i = n by omega]⟩
  · have b1 := b_nz (s := R) (j := i) R1 ⟨i1, by omega⟩
    have r2 := R2 i i1 (by omega)
    refine ok_iload 12 rfl rfl rfl (ok_iload 13 rfl rfl rfl (ok_ishr 14 rfl rfl (ok_iconst 15 rfl rfl (by decide) (ok_iand 16 rfl rfl (ok_if_eq 17 53 rfl rfl rfl (fun h27 => ?_) (fun h27 => ?_))))))
    · refine ok_inc6 33 rfl rfl rfl (by first | omega | (simp [up_if]; omega) | (simp [up_if] at *; omega)) (ok_goto 34 14 rfl rfl rfl ?_)
      refine ih _ (i + 1) ⟨by omega, by omega, v1, nx v v1 (fun c a b => ⟨Or.inl, fun q => ?_⟩)⟩ (by omega)
      rcases q with q | ⟨-, q, -⟩
      · exact q
      · have := r2.mpr q; rw [b1.2.mp (by omega)] at this; cases this
    · refine ok_lload_n 18 rfl rfl rfl (ok_iload 19 rfl rfl rfl (ok_iload_n 20 rfl rfl rfl (ok_callSI (M' := M_Jo_reachedFrom) (as := [_, _, _]) 21 rfl rfl ml_X1_37 (t_Jo_reachedFrom hn ⟨i1, by omega⟩ hJ) ⟨Nat.le_of_ble_eq_true rfl, Nat.le_of_ble_eq_true rfl⟩ rfl (Nat.le_of_ble_eq_true rfl) (fun σ' S hS => ?_))))
      obtain ⟨hs_, hS⟩ := hS
      rw [hs_]; clear hs_ σ'
      obtain ⟨S1, S2⟩ := hS
      have b2 := b_nz (s := S) (j := r) S1 ⟨hr.1, by omega⟩
      have s2 := S2 r hr.1 (by omega)
      refine ok_iload_n 22 rfl rfl rfl (ok_ishr 23 rfl rfl (ok_iconst 24 rfl rfl (by decide) (ok_iand 25 rfl rfl (ok_if_eq 26 53 rfl rfl rfl (fun h41 => ?_) (fun h41 => ?_)))))
      · refine ok_inc6 33 rfl rfl rfl (by first | omega | (simp [up_if]; omega) | (simp [up_if] at *; omega)) (ok_goto 34 14 rfl rfl rfl ?_)
        refine ih _ (i + 1) ⟨by omega, by omega, v1, nx v v1 (fun c a b => ⟨Or.inl, fun q => ?_⟩)⟩ (by omega)
        rcases q with q | ⟨-, -, q⟩
        · exact q
        · have := s2.mpr q; rw [b2.2.mp (by omega)] at this; cases this
      · refine ok_iload 27 rfl rfl rfl (ok_iconst 28 rfl rfl (by decide) (ok_iload 29 rfl rfl rfl (ok_ishl 30 rfl rfl (ok_ior 31 rfl rfl (ok_ist5 32 rfl rfl rfl (ok_inc6 33 rfl rfl rfl (by first | omega | (simp [up_if]; omega) | (simp [up_if] at *; omega)) (ok_goto 34 14 rfl rfl rfl ?_)))))))
        have ob := or8 v1 (j := i) ⟨i1, by omega⟩
        refine ih _ (i + 1) ⟨by omega, by omega, ob, nx _ ob (fun c a b => ?_)⟩ (by omega)
        rw [bitP v1 ⟨i1, by omega⟩, bt_sB' i1 a]
        constructor
        · rintro (q | q)
          · exact Or.inl q
          · exact Or.inr ⟨q, r2.mp (b1.1.mp (by omega)), s2.mp (b2.1.mp (by omega))⟩
        · rintro (q | q)
          · exact Or.inl q
          · exact Or.inr q.1
def okKn (T : Prop) (n r : Int) : Prop := T ∧ 0 ≤ r ∧ r < n
theorem t_Ev_kin {σ : eS} {s r : Int} (h : IA σ) : MtI shA M_Ev_kin [vr 0, vi s, vi r] σ (fun σ' z => σ' = σ ∧ ((¬ okKn (tabA σ s) (σ (s.toNat + 2) 1) r ∧ z = -1) ∨ (okKn (tabA σ s) (σ (s.toNat + 2) 1) r ∧ kiS (σ (s.toNat + 2) 1) (cT σ (s.toNat + 2)) r z))) := by
  refine Mt.of okM_Ev_kin (Nat.le_of_ble_eq_true rfl) (fun hk hg => ?_)
  refine ok_aload_n 0 rfl rfl rfl (ok_iload_n 1 rfl rfl rfl (ok_callVR (M' := M_Ev_slotAt) (as := [_]) 2 rfl rfl ml_X11_86 (s_Ev_slotAt) rfl rfl (Nat.le_of_ble_eq_true rfl) ⟨Nat.le_of_ble_eq_true rfl, Nat.le_of_ble_eq_true rfl⟩ rfl (Nat.le_of_ble_eq_true rfl) (fun σ' z hz => ?_)))
  obtain ⟨hs_, hz⟩ := hz
  rw [hs_]; clear hs_ σ'
  rcases hz with ⟨q, q2⟩ | ⟨q1, q2, q⟩
  · subst q
    refine ok_ast3 3 rfl rfl rfl (ok_aload_n 4 rfl rfl rfl (ok_ifnullN 5 18 rfl rfl rfl (ok_iconst 10 rfl rfl (by decide) (ok_goto 11 35 rfl rfl rfl (ok_iret 19 rfl rfl rfl ?_)))))
    exact ⟨_, rfl, rfl, Or.inl ⟨fun c => q2 ⟨c.1.1, c.1.2.1⟩, rfl⟩⟩
  · subst q
    have ht := sl_tA ⟨q1, q2⟩
    have hT := (h.2.1 _ ht).1
    refine ok_ast3 3 rfl rfl rfl (ok_aload_n 4 rfl rfl rfl (ok_ifnull 5 rfl rfl (ok_aload_n 6 rfl rfl rfl (ok_iload_n 7 rfl rfl rfl (ok_callVI (M' := M_Ta_has) (as := [_]) 8 rfl rfl ml_X11_129 (s_Ta_has ht) (sT ht) rfl (Nat.le_of_ble_eq_true rfl) ⟨Nat.le_of_ble_eq_true rfl, Nat.le_of_ble_eq_true rfl⟩ rfl (Nat.le_of_ble_eq_true rfl) (fun σ' z1 x1 => ?_))))))
    obtain ⟨hs_, x1⟩ := x1
    rw [hs_]; clear hs_ σ'
    refine ok_if_ne 9 22 rfl rfl rfl (fun h15 => ?_) (fun h15 => ?_)
    · refine ok_aload_n 12 rfl rfl rfl (ok_iconst 13 rfl rfl (by decide) (ok_callVL (M' := M_Ta_joinedBy) (as := [_]) 14 rfl rfl ml_X11_119 (t_Ta_joinedBy ht hT) (sT ht) rfl (Nat.le_of_ble_eq_true rfl) ⟨Nat.le_of_ble_eq_true rfl, Nat.le_of_ble_eq_true rfl⟩ rfl (Nat.le_of_ble_eq_true rfl) (fun σ' z2 x2 => ?_)))
      obtain ⟨hs_, x2⟩ := x2
      rw [hs_]; clear hs_ σ'
      refine ok_iload_n 15 rfl rfl rfl (ok_aload_n 16 rfl rfl rfl (ok_getI 17 rfl rfl fl_X11_103 (sT ht) rfl (Or.inl rfl) (ok_callSI (M' := M_Jo_kinOf) (as := [_, _, _]) 18 rfl rfl ml_X11_283 (t_Jo_kinOf ⟨hT.1, hT.2.1⟩ ⟨by omega, by omega⟩ x2) ⟨Nat.le_of_ble_eq_true rfl, Nat.le_of_ble_eq_true rfl⟩ rfl (Nat.le_of_ble_eq_true rfl) (fun σ' z3 x3 => ?_))))
      obtain ⟨hs_, x3⟩ := x3
      rw [hs_]; clear hs_ σ'
      refine ok_iret 19 rfl rfl rfl ?_
      exact ⟨_, rfl, rfl, Or.inr ⟨⟨⟨q1, q2, by omega⟩, by omega⟩, x3⟩⟩
    · refine ok_iconst 10 rfl rfl (by decide) (ok_goto 11 35 rfl rfl rfl (ok_iret 19 rfl rfl rfl ?_))
      exact ⟨_, rfl, rfl, Or.inl ⟨fun c => by have := c.2; omega, rfl⟩⟩
/-- a round of Warshall's way, up to a place -/
def fdW (ρ : eS) (n : Int) (W : Int → Int → Int) (k : Nat) (m : Int) : Prop := ∀ x y, 0 ≤ x → x < n → 0 ≤ y → y < n → (ρ 21 (n * x + y) = 0 ∨ ρ 21 (n * x + y) = 1) ∧ (n * x + y < m → (ρ 21 (n * x + y) = 1 ↔ WP W (k + 1) x y)) ∧ (m ≤ n * x + y → (ρ 21 (n * x + y) = 1 ↔ WP W k x y))
theorem fdW_s {ρ : eS} {n i j v : Int} {W : Int → Int → Int} {k : Nat} (hn : 1 ≤ n ∧ n ≤ 8) (hi : 0 ≤ i ∧ i < n) (hj : 0 ≤ j ∧ j < n) (h : fdW ρ n W k (n * i + j)) (hv : v = 0 ∨ v = 1) (hv2 : v = 1 ↔ WP W (k + 1) i j) : fdW (up ρ 21 (n * i + j) v) n W k (n * i + (j + 1)) := fun x y a b d e => by
  by_cases q : n * x + y = n * i + j
  · obtain ⟨q1, q2⟩ := ix_inj hn ⟨d, e⟩ hj q
    rw [q1, q2, up_same]
    exact ⟨hv, fun _ => hv2, fun w => by omega⟩
  · rw [up_nk _ _ _ _ q]
    obtain ⟨h1, h2, h3⟩ := h x y a b d e
    exact ⟨h1, fun w => h2 (by omega), fun w => h3 (by omega)⟩
theorem t_Mo_kin {σ : eS} {s r : Int} (hB : iB1 σ) : MtI shB M_Mo_kin [vr 0, vi s, vi r] σ (fun σ' z => fr rgX σ σ' ∧ ((¬ okKn (tabB σ s) (σ 1 s) r ∧ z = -1) ∨ (okKn (tabB σ s) (σ 1 s) r ∧ kiS (σ 1 s) (cB σ s) r z))) := by
  refine Mt.of okM_Mo_kin (Nat.le_of_ble_eq_true rfl) (fun hk hg => ?_)
  refine ok_aload_n 0 rfl rfl rfl (ok_iload_n 1 rfl rfl rfl (ok_callVI (M' := M_Mo_isTable) (as := [_]) 2 rfl rfl ml_X12_111 (s_Mo_isTable_r) rfl rfl (Nat.le_of_ble_eq_true rfl) ⟨Nat.le_of_ble_eq_true rfl, Nat.le_of_ble_eq_true rfl⟩ rfl (Nat.le_of_ble_eq_true rfl) (fun σ' z1 a1 => ?_)))
  obtain ⟨hs_, a1⟩ := a1
  rw [hs_]; clear hs_ σ'
  refine ok_if_eq 3 26 rfl rfl rfl (fun h5 => ?_) (fun h5 => ?_)
  · refine ok_iconst 16 rfl rfl (by decide) (ok_iret 17 rfl rfl rfl ?_)
    exact ⟨_, rfl, fr.rf, Or.inl ⟨fun c => no1 a1 h5 c.1, rfl⟩⟩
  · obtain ⟨u1, u2, u3⟩ := yes1 a1 h5
    have tn := hB.1 s u1 u2
    refine ok_iload_n 4 rfl rfl rfl (ok_i2l 5 rfl rfl (ok_lconst (w := 0) 6 rfl rfl rfl (by decide) (ok_aload_n 7 rfl rfl rfl (ok_getR 8 rfl rfl fl_X12_7 rfl rfl (ok_iload_n 9 rfl rfl rfl (ok_iald 10 rfl rfl rfl (by first | omega | (simp [up_if]; omega) | (simp [up_if] at *; omega)) (ok_iconst 11 rfl rfl (by decide) (ok_isub 12 rfl rfl (by first | omega | (simp [up_if]; omega) | (simp [up_if] at *; omega)) (ok_i2l 13 rfl rfl (ok_callSI (M' := M_Mo_isIn) (as := [_, _, _]) 14 rfl rfl ml_X12_99 (s_Mo_isIn_r) ⟨Nat.le_of_ble_eq_true rfl, Nat.le_of_ble_eq_true rfl⟩ rfl (Nat.le_of_ble_eq_true rfl) (fun σ' z2 a2 => ?_)))))))))))
    obtain ⟨hs_, a2⟩ := a2
    rw [hs_]; clear hs_ σ'
    refine ok_if_ne 15 28 rfl rfl rfl (fun h23 => ?_) (fun h23 => ?_)
    · refine ok_aload_n 18 rfl rfl rfl (ok_getR 19 rfl rfl fl_X12_7 rfl rfl (ok_iload_n 20 rfl rfl rfl (ok_iald 21 rfl rfl rfl (by first | omega | (simp [up_if]; omega) | (simp [up_if] at *; omega)) (ok_ist3 22 rfl rfl rfl (ok_iconst 23 rfl rfl (by decide) (ok_ist4 24 rfl rfl rfl ?_))))))
      have hr := yes1 a2 h23
      have hok : okKn (tabB σ s) (σ 1 s) r := ⟨⟨u1, u2, u3⟩, by omega⟩
      obtain ⟨n, en⟩ : ∃ n, n = σ 1 s := ⟨_, rfl⟩
      rw [← en] at hok ⊢
      have n1 : 1 ≤ n ∧ n ≤ 8 := by omega
      have r1 : 0 ≤ r ∧ r < n := by omega
      obtain ⟨W, eW⟩ : ∃ W, W = cB σ s := ⟨_, rfl⟩
      have E : ∀ τ : eS, fr rgX σ τ → iB1 τ ∧ τ 1 s = n ∧ cB τ s = W := fun τ g => by
        have e1 : τ 1 s = σ 1 s := g 1 s (by simp [rgX])
        have e3 : ∀ k, τ 3 k = σ 3 k := fun k => g 3 k (by simp [rgX])
        exact ⟨iB1_frS hB g (fun c k q => by simp only [rgX]; omega), by rw [e1, en], by rw [eW]; funext i j; unfold cB; rw [e1, e3]⟩
      refine lpO2 (fun (k : Int) (_ : eS) => [some (vr 0), some (vi s), some (vi r), some (vi n), some (vi k), none, none]) (fun _ ρ => ρ) (fun k ρ => 0 ≤ k ∧ k ≤ n ∧ fr rgX σ ρ ∧ fdB ρ 21 n (n * k) (WP W 0)) (fun k _ => (n - k).toNat) ?_ 0 _ ⟨by omega, by omega, fr.rf, fun x y c d e g l => by have := ix8 (n := n) (i := x) (j := y) ⟨by omega, by omega⟩ ⟨c, d⟩ ⟨e, g⟩; omega⟩
      rintro k ρ ⟨k1, k2, f, hz⟩ ih
      refine ok_iload 25 rfl rfl rfl (ok_iload_n 26 rfl rfl rfl (ok_icmp_ge 27 101 rfl rfl rfl (fun h41 => ?_) (fun h41 => ?_)))
      · refine ok_iconst 57 rfl rfl (by decide) (ok_ist4 58 rfl rfl rfl ?_)
        have hz0 : ∀ x y, 0 ≤ x → x < n → 0 ≤ y → y < n → (ρ 21 (n * x + y) = 0 ∨ ρ 21 (n * x + y) = 1) ∧ (ρ 21 (n * x + y) = 1 ↔ WP W (0 : Int).toNat x y) := fun x y c d e g => by
          rw [show k = n by omega] at hz
          exact fdB_all n1 hz ⟨c, d⟩ ⟨e, g⟩
        clear ih k1 k2 hz
        refine lpO2 (fun (k : Int) (_ : eS) => [some (vr 0), some (vi s), some (vi r), some (vi n), some (vi k), none, none]) (fun _ ρ => ρ) (fun k ρ => 0 ≤ k ∧ k ≤ n ∧ fr rgX σ ρ ∧ ∀ x y, 0 ≤ x → x < n → 0 ≤ y → y < n → (ρ 21 (n * x + y) = 0 ∨ ρ 21 (n * x + y) = 1) ∧ (ρ 21 (n * x + y) = 1 ↔ WP W k.toNat x y)) (fun k _ => (n - k).toNat) ?_ 0 _ ⟨by omega, by omega, f, hz0⟩
        clear f hz0 h41 ρ k
        rintro k ρ ⟨k1, k2, f, hz⟩ ih
        refine ok_iload 59 rfl rfl rfl (ok_iload_n 60 rfl rfl rfl (ok_icmp_ge 61 208 rfl rfl rfl (fun h107 => ?_) (fun h107 => ?_)))
        · refine ok_iconst 116 rfl rfl (by decide) (ok_ist4 117 rfl rfl rfl (ok_iconst 118 rfl rfl (by decide) (ok_ist5 119 rfl rfl rfl ?_)))
          rw [show k = n by omega] at hz
          have hq : ∀ x y, 0 ≤ x → x < n → 0 ≤ y → y < n → (ρ 21 (n * x + y) = 0 ∨ ρ 21 (n * x + y) = 1) ∧ (ρ 21 (n * x + y) = 1 ↔ RT n W x y) := fun x y c d e g => ⟨(hz x y c d e g).1, (hz x y c d e g).2.trans (WP_iff ⟨c, d⟩ ⟨e, g⟩)⟩
          clear ih k1 k2 hz
          refine lpO2 (fun (v i : Int) => [some (vr 0), some (vi s), some (vi r), some (vi n), some (vi v), some (vi i), none]) (fun _ _ => ρ) (fun v i => 0 ≤ i ∧ i ≤ n ∧ (0 ≤ v ∧ v < 256) ∧ ∀ c : Int, 0 ≤ c → c < 8 → (bt v c = true ↔ (c < i ∧ RT n W r c ∧ RT n W c r))) (fun _ i => (n - i).toNat) ?_ 0 0 ⟨by omega, by omega, ⟨by omega, by omega⟩, fun c a b => by rw [bt_0]; constructor; intro q; cases q; intro q; omega⟩
          rintro v i ⟨i1, i2, v1, v2⟩ ih2
          refine ok_iload 120 rfl rfl rfl (ok_iload_n 121 rfl rfl rfl (ok_icmp_ge 122 270 rfl rfl rfl (fun h217 => ?_) (fun h217 => ?_)))
          · refine ok_iload 152 rfl rfl rfl (ok_iret 153 rfl rfl rfl ?_)
            refine ⟨_, rfl, f, Or.inr ⟨hok, v1, fun c a b => ?_⟩⟩
            rw [v2 c a b, show i = n by omega, eW]
          · have b1 := ix8 (n := n) (i := r) (j := i) ⟨by omega, by omega⟩ ⟨by omega, by omega⟩ ⟨by omega, by omega⟩
            have b2 := ix8 (n := n) (i := i) (j := r) ⟨by omega, by omega⟩ ⟨by omega, by omega⟩ ⟨by omega, by omega⟩
            have c1 := hq r i r1.1 r1.2 i1 (by omega)
            have c2 := hq i r i1 (by omega) r1.1 r1.2
            have ob := or8 v1 (j := i) ⟨i1, by omega⟩
            have bp := bitP v1 (j := i) ⟨i1, by omega⟩
            have nx1 : RT n W r i ∧ RT n W i r → ∀ c : Int, 0 ≤ c → c < 8 → (bt (ior v (ishl 1 i)) c = true ↔ (c < i + 1 ∧ RT n W r c ∧ RT n W c r)) := fun y c a b => by
              rw [bp, bt_sB' i1 a, v2 c a b]
              constructor
              · rintro (q | q)
                · exact ⟨by omega, q.2⟩
                · subst q; exact ⟨by omega, y⟩
              · rintro ⟨q, w⟩
                by_cases u : c = i
                · exact Or.inr u
                · exact Or.inl ⟨by omega, w⟩
            have nx0 : ¬ (RT n W r i ∧ RT n W i r) → ∀ c : Int, 0 ≤ c → c < 8 → (bt (ior v (ishl 0 i)) c = true ↔ (c < i + 1 ∧ RT n W r c ∧ RT n W c r)) := fun y c a b => by
              rw [ior_z v1 ⟨i1, by omega⟩, v2 c a b]
              constructor
              · rintro q; exact ⟨by omega, q.2⟩
              · rintro ⟨q, w⟩
                by_cases u : c = i
                · subst u; exact absurd w y
                · exact ⟨by omega, w⟩
            have oz := ior_z v1 (j := i) ⟨i1, by omega⟩
            refine ok_iload 123 rfl rfl rfl (ok_aload_n 124 rfl rfl rfl (ok_getR 125 rfl rfl fl_X12_75 rfl rfl (ok_iload_n 126 rfl rfl rfl (ok_iload_n 127 rfl rfl rfl (ok_imul 128 rfl rfl (by first | omega | (simp [up_if]; omega) | (simp [up_if] at *; omega)) (ok_iload 129 rfl rfl rfl (ok_iadd 130 rfl rfl (by first | omega | (simp [up_if]; omega) | (simp [up_if] at *; omega)) (ok_zald 131 rfl rfl rfl (by first | omega | (simp [up_if]; omega) | (simp [up_if] at *; omega)) (ok_if_eq 132 254 rfl rfl rfl (fun h233 => ?_) (fun h233 => ?_))))))))))
            · refine ok_iconst 144 rfl rfl (by decide) (ok_callSI (M' := M_Mo_one) (as := [_]) 145 rfl rfl ml_X12_192 (s_Mo_one) ⟨Nat.le_of_ble_eq_true rfl, Nat.le_of_ble_eq_true rfl⟩ rfl (Nat.le_of_ble_eq_true rfl) (fun σ' z hz => ?_))
              rw [hz.1, hz.2]; clear hz z σ'
              refine ok_iload 146 rfl rfl rfl (ok_ishl 147 rfl rfl (ok_ior 148 rfl rfl (ok_ist4 149 rfl rfl rfl (ok_inc5 150 rfl rfl rfl (by first | omega | (simp [up_if]; omega) | (simp [up_if] at *; omega)) (ok_goto 151 214 rfl rfl rfl ?_)))))
              first
                | (rw [if_neg (by decide)]
                   exact ih2 _ (i + 1) ⟨by omega, by omega, ob, nx1 ⟨c1.2.mp (by omega), c2.2.mp (by omega)⟩⟩ (by omega))
                | (rw [if_pos rfl]
                   exact ih2 _ (i + 1) ⟨by omega, by omega, by rw [oz]; exact v1, nx0 (fun y => by have y1 := c1.2.mpr y.1; have y2 := c2.2.mpr y.2; omega)⟩ (by omega))
            · refine ok_aload_n 133 rfl rfl rfl (ok_getR 134 rfl rfl fl_X12_75 rfl rfl (ok_iload_n 135 rfl rfl rfl (ok_iload 136 rfl rfl rfl (ok_imul 137 rfl rfl (by first | omega | (simp [up_if]; omega) | (simp [up_if] at *; omega)) (ok_iload_n 138 rfl rfl rfl (ok_iadd 139 rfl rfl (by first | omega | (simp [up_if]; omega) | (simp [up_if] at *; omega)) (ok_zald 140 rfl rfl rfl (by first | omega | (simp [up_if]; omega) | (simp [up_if] at *; omega)) (ok_if_eq 141 254 rfl rfl rfl (fun h247 => ?_) (fun h247 => ?_)))))))))
              · refine ok_iconst 144 rfl rfl (by decide) (ok_callSI (M' := M_Mo_one) (as := [_]) 145 rfl rfl ml_X12_192 (s_Mo_one) ⟨Nat.le_of_ble_eq_true rfl, Nat.le_of_ble_eq_true rfl⟩ rfl (Nat.le_of_ble_eq_true rfl) (fun σ' z hz => ?_))
                rw [hz.1, hz.2]; clear hz z σ'
                refine ok_iload 146 rfl rfl rfl (ok_ishl 147 rfl rfl (ok_ior 148 rfl rfl (ok_ist4 149 rfl rfl rfl (ok_inc5 150 rfl rfl rfl (by first | omega | (simp [up_if]; omega) | (simp [up_if] at *; omega)) (ok_goto 151 214 rfl rfl rfl ?_)))))
                first
                  | (rw [if_neg (by decide)]
                     exact ih2 _ (i + 1) ⟨by omega, by omega, ob, nx1 ⟨c1.2.mp (by omega), c2.2.mp (by omega)⟩⟩ (by omega))
                  | (rw [if_pos rfl]
                     exact ih2 _ (i + 1) ⟨by omega, by omega, by rw [oz]; exact v1, nx0 (fun y => by have y1 := c1.2.mpr y.1; have y2 := c2.2.mpr y.2; omega)⟩ (by omega))
              · refine ok_iconst 142 rfl rfl (by decide) (ok_goto 143 255 rfl rfl rfl (ok_callSI (M' := M_Mo_one) (as := [_]) 145 rfl rfl ml_X12_192 (s_Mo_one) ⟨Nat.le_of_ble_eq_true rfl, Nat.le_of_ble_eq_true rfl⟩ rfl (Nat.le_of_ble_eq_true rfl) (fun σ' z hz => ?_)))
                rw [hz.1, hz.2]; clear hz z σ'
                refine ok_iload 146 rfl rfl rfl (ok_ishl 147 rfl rfl (ok_ior 148 rfl rfl (ok_ist4 149 rfl rfl rfl (ok_inc5 150 rfl rfl rfl (by first | omega | (simp [up_if]; omega) | (simp [up_if] at *; omega)) (ok_goto 151 214 rfl rfl rfl ?_)))))
                first
                  | (rw [if_neg (by decide)]
                     exact ih2 _ (i + 1) ⟨by omega, by omega, ob, nx1 ⟨c1.2.mp (by omega), c2.2.mp (by omega)⟩⟩ (by omega))
                  | (rw [if_pos rfl]
                     exact ih2 _ (i + 1) ⟨by omega, by omega, by rw [oz]; exact v1, nx0 (fun y => by have y1 := c1.2.mpr y.1; have y2 := c2.2.mpr y.2; omega)⟩ (by omega))
        · refine ok_iconst 62 rfl rfl (by decide) (ok_ist5 63 rfl rfl rfl ?_)
          have kn : k < n := by omega
          have ek : ((k.toNat : Nat) : Int) = k := Int.toNat_of_nonneg k1
          refine lpO2 (fun (i : Int) (_ : eS) => [some (vr 0), some (vi s), some (vi r), some (vi n), some (vi k), some (vi i), none]) (fun _ ρ => ρ) (fun i ρ => 0 ≤ i ∧ i ≤ n ∧ fr rgX σ ρ ∧ fdW ρ n W k.toNat (n * i)) (fun i _ => (n - i).toNat) ?_ 0 _ ⟨by omega, by omega, f, fun x y c d e g => by have := ix8 (n := n) (i := x) (j := y) ⟨by omega, by omega⟩ ⟨c, d⟩ ⟨e, g⟩; exact ⟨(hz x y c d e g).1, fun w => by omega, fun _ => (hz x y c d e g).2⟩⟩
          clear f hz ρ
          rintro i ρ ⟨i1, i2, f, hz⟩ ih2
          refine ok_iload 64 rfl rfl rfl (ok_iload_n 65 rfl rfl rfl (ok_icmp_ge 66 202 rfl rfl rfl (fun h116 => ?_) (fun h116 => ?_)))
          · refine ok_inc4 114 rfl rfl rfl (by first | omega | (simp [up_if]; omega) | (simp [up_if] at *; omega)) (ok_goto 115 104 rfl rfl rfl ?_)
            refine ok_fg [some (vr 0), some (vi s), some (vi r), some (vi n), some (vi (k + 1)), none, none] ⟨rfl, rfl, rfl, rfl, rfl, trivial⟩ (ih (k + 1) _ ⟨by omega, by omega, f, fun x y c d e g => ?_⟩ (by omega))
            rw [show i = n by omega] at hz
            have bx := ix8 (n := n) (i := x) (j := y) ⟨by omega, by omega⟩ ⟨c, d⟩ ⟨e, g⟩
            obtain ⟨h1, h2, -⟩ := hz x y c d e g
            rw [show (k + 1).toNat = k.toNat + 1 by omega]
            exact ⟨h1, h2 (by omega)⟩
          · refine ok_iconst 67 rfl rfl (by decide) (ok_ist6 68 rfl rfl rfl ?_)
            refine lpO2 (fun (j : Int) (_ : eS) => [some (vr 0), some (vi s), some (vi r), some (vi n), some (vi k), some (vi i), some (vi j)]) (fun _ ρ => ρ) (fun j ρ => 0 ≤ j ∧ j ≤ n ∧ fr rgX σ ρ ∧ fdW ρ n W k.toNat (n * i + j)) (fun j _ => (n - j).toNat) ?_ 0 _ ⟨by omega, by omega, f, by rw [Int.add_zero]; exact hz⟩
            clear f hz ρ
            rintro j ρ ⟨j1, j2, f, hz⟩ ih3
            refine ok_iload 69 rfl rfl rfl (ok_iload_n 70 rfl rfl rfl (ok_icmp_ge 71 196 rfl rfl rfl (fun h125 => ?_) (fun h125 => ?_)))
            · refine ok_inc5 112 rfl rfl rfl (by first | omega | (simp [up_if]; omega) | (simp [up_if] at *; omega)) (ok_goto 113 113 rfl rfl rfl ?_)
              exact ok_fg [some (vr 0), some (vi s), some (vi r), some (vi n), some (vi k), some (vi (i + 1)), none] ⟨rfl, rfl, rfl, rfl, rfl, rfl, trivial⟩ (ih2 (i + 1) _ ⟨by omega, by omega, f, by rw [show j = n by omega] at hz; rw [Int.mul_add, Int.mul_one]; exact hz⟩ (by omega))
            · have b1 := ix8 (n := n) (i := i) (j := j) ⟨by omega, by omega⟩ ⟨by omega, by omega⟩ ⟨by omega, by omega⟩
              have b2 := ix8 (n := n) (i := i) (j := k) ⟨by omega, by omega⟩ ⟨by omega, by omega⟩ ⟨by omega, by omega⟩
              have b3 := ix8 (n := n) (i := k) (j := j) ⟨by omega, by omega⟩ ⟨by omega, by omega⟩ ⟨by omega, by omega⟩
              obtain ⟨h1, -, h2⟩ := hz i j i1 (by omega) j1 (by omega)
              have h2 := h2 (Int.le_refl _)
              obtain ⟨g1, g2, g3⟩ := hz i k i1 (by omega) k1 kn
              have g4 : ρ 21 (n * i + k) = 1 ↔ WP W k.toNat i k := by
                rcases (by omega : n * i + k < n * i + j ∨ n * i + j ≤ n * i + k) with y | y
                · have x := g2 y; have w := WP_k1 (W := W) (k := k.toNat) (i := i); rw [ek] at w; exact x.trans w
                · exact g3 y
              obtain ⟨d1, d2, d3⟩ := hz k j k1 kn j1 (by omega)
              have d4 : ρ 21 (n * k + j) = 1 ↔ WP W k.toNat k j := by
                rcases (by omega : n * k + j < n * i + j ∨ n * i + j ≤ n * k + j) with y | y
                · have x := d2 y; have w := WP_k2 (W := W) (k := k.toNat) (j := j); rw [ek] at w; exact x.trans w
                · exact d3 y
              have st : WP W (k.toNat + 1) i j ↔ (WP W k.toNat i j ∨ (WP W k.toNat i k ∧ WP W k.toNat k j)) := by show (WP W k.toNat i j ∨ (WP W k.toNat i ((k.toNat : Nat) : Int) ∧ WP W k.toNat ((k.toNat : Nat) : Int) j)) ↔ _; rw [ek]
              refine ok_aload_n 72 rfl rfl rfl (ok_getR 73 rfl rfl fl_X12_75 rfl rfl (ok_iload_n 74 rfl rfl rfl (ok_iload 75 rfl rfl rfl (ok_imul 76 rfl rfl (by first | omega | (simp [up_if]; omega) | (simp [up_if] at *; omega)) (ok_iload 77 rfl rfl rfl (ok_iadd 78 rfl rfl (by first | omega | (simp [up_if]; omega) | (simp [up_if] at *; omega)) (ok_aload_n 79 rfl rfl rfl (ok_getR 80 rfl rfl fl_X12_75 rfl rfl (ok_iload_n 81 rfl rfl rfl (ok_iload 82 rfl rfl rfl (ok_imul 83 rfl rfl (by first | omega | (simp [up_if]; omega) | (simp [up_if] at *; omega)) (ok_iload 84 rfl rfl rfl (ok_iadd 85 rfl rfl (by first | omega | (simp [up_if]; omega) | (simp [up_if] at *; omega)) (ok_zald 86 rfl rfl rfl (by first | omega | (simp [up_if]; omega) | (simp [up_if] at *; omega)) (ok_if_ne 87 184 rfl rfl rfl (fun h151 => ?_) (fun h151 => ?_))))))))))))))))
              · refine ok_iconst 106 rfl rfl (by decide) (ok_goto 107 189 rfl rfl rfl (ok_zast 109 rfl rfl rfl (by first | omega | (simp [up_if]; omega) | (simp [up_if] at *; omega)) (by first | omega | (simp [up_if]; omega) | (simp [up_if] at *; omega)) (ok_inc6 110 rfl rfl rfl (by first | omega | (simp [up_if]; omega) | (simp [up_if] at *; omega)) (ok_goto 111 122 rfl rfl rfl ?_))))
                refine ih3 (j + 1) _ ⟨by omega, by omega, fr_up f (by simp [rgX]), fdW_s n1 ⟨i1, by omega⟩ ⟨j1, by omega⟩ hz (by omega) ?_⟩ (by omega)
                rw [st, ← h2, ← g4, ← d4]
                omega
              · refine ok_aload_n 88 rfl rfl rfl (ok_getR 89 rfl rfl fl_X12_75 rfl rfl (ok_iload_n 90 rfl rfl rfl (ok_iload 91 rfl rfl rfl (ok_imul 92 rfl rfl (by first | omega | (simp [up_if]; omega) | (simp [up_if] at *; omega)) (ok_iload 93 rfl rfl rfl (ok_iadd 94 rfl rfl (by first | omega | (simp [up_if]; omega) | (simp [up_if] at *; omega)) (ok_zald 95 rfl rfl rfl (by first | omega | (simp [up_if]; omega) | (simp [up_if] at *; omega)) (ok_if_eq 96 188 rfl rfl rfl (fun h166 => ?_) (fun h166 => ?_)))))))))
                · refine ok_iconst 108 rfl rfl (by decide) (ok_zast 109 rfl rfl rfl (by first | omega | (simp [up_if]; omega) | (simp [up_if] at *; omega)) (by first | omega | (simp [up_if]; omega) | (simp [up_if] at *; omega)) (ok_inc6 110 rfl rfl rfl (by first | omega | (simp [up_if]; omega) | (simp [up_if] at *; omega)) (ok_goto 111 122 rfl rfl rfl ?_)))
                  refine ih3 (j + 1) _ ⟨by omega, by omega, fr_up f (by simp [rgX]), fdW_s n1 ⟨i1, by omega⟩ ⟨j1, by omega⟩ hz (by omega) ?_⟩ (by omega)
                  rw [st, ← h2, ← g4, ← d4]
                  omega
                · refine ok_aload_n 97 rfl rfl rfl (ok_getR 98 rfl rfl fl_X12_75 rfl rfl (ok_iload_n 99 rfl rfl rfl (ok_iload 100 rfl rfl rfl (ok_imul 101 rfl rfl (by first | omega | (simp [up_if]; omega) | (simp [up_if] at *; omega)) (ok_iload 102 rfl rfl rfl (ok_iadd 103 rfl rfl (by first | omega | (simp [up_if]; omega) | (simp [up_if] at *; omega)) (ok_zald 104 rfl rfl rfl (by first | omega | (simp [up_if]; omega) | (simp [up_if] at *; omega)) (ok_if_eq 105 188 rfl rfl rfl (fun h181 => ?_) (fun h181 => ?_)))))))))
                  · refine ok_iconst 108 rfl rfl (by decide) (ok_zast 109 rfl rfl rfl (by first | omega | (simp [up_if]; omega) | (simp [up_if] at *; omega)) (by first | omega | (simp [up_if]; omega) | (simp [up_if] at *; omega)) (ok_inc6 110 rfl rfl rfl (by first | omega | (simp [up_if]; omega) | (simp [up_if] at *; omega)) (ok_goto 111 122 rfl rfl rfl ?_)))
                    refine ih3 (j + 1) _ ⟨by omega, by omega, fr_up f (by simp [rgX]), fdW_s n1 ⟨i1, by omega⟩ ⟨j1, by omega⟩ hz (by omega) ?_⟩ (by omega)
                    rw [st, ← h2, ← g4, ← d4]
                    omega
                  · refine ok_iconst 106 rfl rfl (by decide) (ok_goto 107 189 rfl rfl rfl (ok_zast 109 rfl rfl rfl (by first | omega | (simp [up_if]; omega) | (simp [up_if] at *; omega)) (by first | omega | (simp [up_if]; omega) | (simp [up_if] at *; omega)) (ok_inc6 110 rfl rfl rfl (by first | omega | (simp [up_if]; omega) | (simp [up_if] at *; omega)) (ok_goto 111 122 rfl rfl rfl ?_))))
                    refine ih3 (j + 1) _ ⟨by omega, by omega, fr_up f (by simp [rgX]), fdW_s n1 ⟨i1, by omega⟩ ⟨j1, by omega⟩ hz (by omega) ?_⟩ (by omega)
                    rw [st, ← h2, ← g4, ← d4]
                    omega
      · refine ok_iconst 28 rfl rfl (by decide) (ok_ist5 29 rfl rfl rfl ?_)
        refine lpO2 (fun (j : Int) (_ : eS) => [some (vr 0), some (vi s), some (vi r), some (vi n), some (vi k), some (vi j), none]) (fun _ ρ => ρ) (fun j ρ => 0 ≤ j ∧ j ≤ n ∧ fr rgX σ ρ ∧ fdB ρ 21 n (n * k + j) (WP W 0)) (fun j _ => (n - j).toNat) ?_ 0 _ ⟨by omega, by omega, f, by rw [Int.add_zero]; exact hz⟩
        clear f hz ρ
        rintro j ρ ⟨j1, j2, f, hz⟩ ih2
        obtain ⟨eb, e1, ec⟩ := E ρ f
        refine ok_iload 30 rfl rfl rfl (ok_iload_n 31 rfl rfl rfl (ok_icmp_ge 32 95 rfl rfl rfl (fun h50 => ?_) (fun h50 => ?_)))
        · refine ok_inc4 55 rfl rfl rfl (by first | omega | (simp [up_if]; omega) | (simp [up_if] at *; omega)) (ok_goto 56 38 rfl rfl rfl ?_)
          exact ok_fg [some (vr 0), some (vi s), some (vi r), some (vi n), some (vi (k + 1)), none, none] ⟨rfl, rfl, rfl, rfl, rfl, trivial⟩ (ih (k + 1) _ ⟨by omega, by omega, f, fdB_r (by rw [show j = n by omega] at hz; exact hz)⟩ (by omega))
        · have bm := ix8 (n := n) (i := k) (j := j) ⟨by omega, by omega⟩ ⟨by omega, by omega⟩ ⟨by omega, by omega⟩
          refine ok_aload_n 33 rfl rfl rfl (ok_getR 34 rfl rfl fl_X12_75 rfl rfl (ok_iload_n 35 rfl rfl rfl (ok_iload 36 rfl rfl rfl (ok_imul 37 rfl rfl (by first | omega | (simp [up_if]; omega) | (simp [up_if] at *; omega)) (ok_iload 38 rfl rfl rfl (ok_iadd 39 rfl rfl (by first | omega | (simp [up_if]; omega) | (simp [up_if] at *; omega)) (ok_iload 40 rfl rfl rfl (ok_iload 41 rfl rfl rfl (ok_icmp_eq 42 83 rfl rfl rfl (fun h68 => ?_) (fun h68 => ?_))))))))))
          · refine ok_iconst 49 rfl rfl (by decide) (ok_goto 50 88 rfl rfl rfl (ok_zast 52 rfl rfl rfl (by first | omega | (simp [up_if]; omega) | (simp [up_if] at *; omega)) (by first | omega | (simp [up_if]; omega) | (simp [up_if] at *; omega)) (ok_inc5 53 rfl rfl rfl (by first | omega | (simp [up_if]; omega) | (simp [up_if] at *; omega)) (ok_goto 54 47 rfl rfl rfl ?_))))
            refine ih2 (j + 1) _ ⟨by omega, by omega, fr_up f (by simp [rgX]), fdB_s n1 ⟨by omega, by omega⟩ ⟨by omega, by omega⟩ hz (by omega) ?_⟩ (by omega)
            first
              | exact ⟨fun _ => Or.inl (by omega), fun _ => rfl⟩
              | exact ⟨fun _ => Or.inr (by omega), fun _ => rfl⟩
              | exact ⟨fun y => absurd y (by decide), fun y => by rcases y with y | y <;> omega⟩
          · refine ok_aload_n 43 rfl rfl rfl (ok_iload_n 44 rfl rfl rfl (ok_iload 45 rfl rfl rfl (ok_iload 46 rfl rfl rfl (ok_callVI (M' := M_Mo_at) (as := [_, _, _]) 47 rfl rfl ml_X12_107 (s_Mo_at eb ⟨u1, u2⟩ ⟨by omega, by omega⟩ ⟨by omega, by omega⟩) rfl rfl (Nat.le_of_ble_eq_true rfl) ⟨Nat.le_of_ble_eq_true rfl, Nat.le_of_ble_eq_true rfl⟩ rfl (Nat.le_of_ble_eq_true rfl) (fun σ' z hz2 => ?_)))))
            rw [hz2.1, hz2.2, ec]; clear hz2 z σ'
            refine ok_if_le 48 87 rfl rfl rfl (fun h80 => ?_) (fun h80 => ?_)
            · refine ok_iconst 51 rfl rfl (by decide) (ok_zast 52 rfl rfl rfl (by first | omega | (simp [up_if]; omega) | (simp [up_if] at *; omega)) (by first | omega | (simp [up_if]; omega) | (simp [up_if] at *; omega)) (ok_inc5 53 rfl rfl rfl (by first | omega | (simp [up_if]; omega) | (simp [up_if] at *; omega)) (ok_goto 54 47 rfl rfl rfl ?_)))
              refine ih2 (j + 1) _ ⟨by omega, by omega, fr_up f (by simp [rgX]), fdB_s n1 ⟨by omega, by omega⟩ ⟨by omega, by omega⟩ hz (by omega) ?_⟩ (by omega)
              first
                | exact ⟨fun _ => Or.inl (by omega), fun _ => rfl⟩
                | exact ⟨fun _ => Or.inr (by omega), fun _ => rfl⟩
                | exact ⟨fun y => absurd y (by decide), fun y => by rcases y with y | y <;> omega⟩
            · refine ok_iconst 49 rfl rfl (by decide) (ok_goto 50 88 rfl rfl rfl (ok_zast 52 rfl rfl rfl (by first | omega | (simp [up_if]; omega) | (simp [up_if] at *; omega)) (by first | omega | (simp [up_if]; omega) | (simp [up_if] at *; omega)) (ok_inc5 53 rfl rfl rfl (by first | omega | (simp [up_if]; omega) | (simp [up_if] at *; omega)) (ok_goto 54 47 rfl rfl rfl ?_))))
              refine ih2 (j + 1) _ ⟨by omega, by omega, fr_up f (by simp [rgX]), fdB_s n1 ⟨by omega, by omega⟩ ⟨by omega, by omega⟩ hz (by omega) ?_⟩ (by omega)
              first
                | exact ⟨fun _ => Or.inl (by omega), fun _ => rfl⟩
                | exact ⟨fun _ => Or.inr (by omega), fun _ => rfl⟩
                | exact ⟨fun y => absurd y (by decide), fun y => by rcases y with y | y <;> omega⟩
    · refine ok_iconst 16 rfl rfl (by decide) (ok_iret 17 rfl rfl rfl ?_)
      exact ⟨_, rfl, fr.rf, Or.inl ⟨fun c => no1 a2 h23 (by have := c.2; omega), rfl⟩⟩
end
section
/-! GROUPS: rows that hang together, counted by rounds and by labels -/
noncomputable def ind (p : Prop) : Int := @ite Int p (Classical.propDecidable _) 1 0
noncomputable def W2 (n : Int) (W : Int → Int → Int) (r k : Int) : Int := ind (∃ j, 0 ≤ j ∧ j < n ∧ 1 ≤ W r j ∧ 1 ≤ W k j)
end
section
/-! FEWEST PARTS with up to three rows: what all even and all odd choices have -/
def lz (W : Int → Int → Int) (a b : Int) : Int := W ((2 * (b + 3 - a)) % 3) (((2 * (b + 3 - a)) % 3 + a) % 3)
end
section
/-! SOUGHT: words of four rules, purely -/
def RC (n : Int) (W0 : Int → Int → Int) (rs : Nat → Int) : Nat → (Int → Int → Int) → Int → Prop
  | 0, W, P => ag n W W0 ∧ P = 0
  | j + 1, W, P => ∃ W1 P1, RC n W0 rs j W1 P1 ∧ ((nil0 n W1 ∧ ag n W W1 ∧ P = P1) ∨ (∃ ch w, stp n (rs j) W1 W ch w ∧ P = P1 + 1))
def NW (n : Int) (W0 : Int → Int → Int) (rs : Nat → Int) (z : Int) : Prop := ∃ j W, RC n W0 rs j W z ∧ nil0 n W
section K19
variable {n : Int} {W0 V0 : Int → Int → Int} {rs rs' : Nat → Int}
theorem nil_ag {W V : Int → Int → Int} (e : ag n W V) (h : nil0 n W) : nil0 n V := fun i j a b c d => by rw [← e i j a b c d]; exact h i j a b c d
theorem RC_ag : ∀ {j : Nat} {W W' : Int → Int → Int} {P : Int}, ag n W W' → RC n W0 rs j W P → RC n W0 rs j W' P
  | 0, _, _, _, e, h => ⟨e.sy.tr h.1, h.2⟩
  | _ + 1, _, _, _, e, ⟨W1, P1, h1, h2⟩ => ⟨W1, P1, h1, by
    rcases h2 with ⟨a, b, c⟩ | ⟨ch, w, s, c⟩
    · exact Or.inl ⟨a, e.sy.tr b, c⟩
    · exact Or.inr ⟨ch, w, stp_cc (fun _ _ _ => rfl) e.sy s, c⟩⟩
theorem RC_w0 (e : ag n W0 V0) : ∀ {j : Nat} {W : Int → Int → Int} {P : Int}, RC n W0 rs j W P → RC n V0 rs j W P
  | 0, _, _, h => ⟨h.1.tr e, h.2⟩
  | _ + 1, _, _, ⟨W1, P1, h1, h2⟩ => ⟨W1, P1, RC_w0 e h1, h2⟩
theorem RC_rs : ∀ {j : Nat} {W : Int → Int → Int} {P : Int}, (∀ k, k < j → rs k = rs' k) → RC n W0 rs j W P → RC n W0 rs' j W P
  | 0, _, _, _, h => h
  | j + 1, _, _, e, ⟨W1, P1, h1, h2⟩ => ⟨W1, P1, RC_rs (fun k a => e k (by omega)) h1, by rw [← e j (by omega)]; exact h2⟩
theorem RC_un (hn : 1 ≤ n ∧ n ≤ 8) (h0 : ag n W0 V0) : ∀ {j : Nat} {W V : Int → Int → Int} {P Q : Int}, RC n W0 rs j W P → RC n V0 rs j V Q → ag n W V ∧ P = Q
  | 0, _, _, _, _, h, g => ⟨(h.1.tr h0).tr g.1.sy, by rw [h.2, g.2]⟩
  | j + 1, _, _, _, _, ⟨W1, P1, h1, h2⟩, ⟨V1, Q1, g1, g2⟩ => by
    obtain ⟨e, q⟩ := RC_un hn h0 h1 g1
    rcases h2 with ⟨a, b, c⟩ | ⟨ch, w, s, c⟩ <;> rcases g2 with ⟨a', b', c'⟩ | ⟨ch', w', s', c'⟩
    · exact ⟨(b.tr e).tr b'.sy, by omega⟩
    · exact absurd (nil_ag e a) (fun y => stp_no hn s' (ag_rf _ _) y)
    · exact absurd (nil_ag e.sy a') (fun y => stp_no hn s (ag_rf _ _) y)
    · obtain ⟨x, -, -⟩ := stp_un hn e s s'
      exact ⟨x, by omega⟩
theorem RC_nil {j : Nat} {W : Int → Int → Int} {P : Int} (h : RC n W0 rs j W P) (hz : nil0 n W) : ∀ d : Nat, RC n W0 rs (j + d) W P
  | 0 => h
  | d + 1 => ⟨W, P, RC_nil h hz d, Or.inl ⟨hz, ag_rf _ _, rfl⟩⟩
theorem RC_mono (hn : 1 ≤ n ∧ n ≤ 8) {j : Nat} {W : Int → Int → Int} {P : Int} (h : RC n W0 rs j W P) : ∀ (d : Nat) {V : Int → Int → Int} {Q : Int}, RC n W0 rs (j + d) V Q → P ≤ Q ∧ (1 ≤ d → ¬ nil0 n W → P + 1 ≤ Q)
  | 0, V, Q, g => ⟨by have := (RC_un hn (ag_rf _ _) h g).2; omega, fun q => by omega⟩
  | d + 1, V, Q, ⟨V1, Q1, g1, g2⟩ => by
    obtain ⟨a, b⟩ := RC_mono hn h d g1
    have hq : Q1 ≤ Q := by rcases g2 with ⟨-, -, c⟩ | ⟨-, -, -, c⟩ <;> omega
    refine ⟨by omega, fun _ q => ?_⟩
    by_cases x : d = 0
    · subst x
      obtain ⟨e, e2⟩ := RC_un hn (ag_rf _ _) h g1
      rcases g2 with ⟨c, -, -⟩ | ⟨-, -, -, c⟩
      · exact absurd (nil_ag e.sy c) q
      · omega
    · have := b (by omega) q; omega
theorem NW_un (hn : 1 ≤ n ∧ n ≤ 8) (h0 : ag n W0 V0) {z z' : Int} (h : NW n W0 rs z) (g : NW n V0 rs z') : z = z' := by
  obtain ⟨j, W, h1, h2⟩ := h
  obtain ⟨k, V, g1, g2⟩ := g
  have a := RC_nil h1 h2 k
  have b := RC_nil g1 g2 j
  rw [Nat.add_comm k j] at b
  exact (RC_un hn h0 a b).2
theorem NW_gt (hn : 1 ≤ n ∧ n ≤ 8) {j : Nat} {W : Int → Int → Int} {P z : Int} (h : RC n W0 rs j W P) (hz : ¬ nil0 n W) (g : NW n W0 rs z) : P + 1 ≤ z := by
  obtain ⟨k, V, g1, g2⟩ := g
  have b := RC_nil g1 g2 (j + 1)
  rw [show k + (j + 1) = j + (k + 1) by omega] at b
  exact (RC_mono hn h (k + 1) b).2 (by omega) hz
theorem NW_w0 (e : ag n W0 V0) {z : Int} (h : NW n W0 rs z) : NW n V0 rs z := by
  obtain ⟨j, W, h1, h2⟩ := h
  exact ⟨j, W, RC_w0 e h1, h2⟩
theorem stp_same {r r' x x' : Int} {W V A B : Int → Int → Int} {ch ch' : Int → Int} (hn : 1 ≤ n ∧ n ≤ 8) (hw : ag n W V) (h : stp n r W A ch x) (g : stp n r' V B ch' x') (e : ∀ i, 0 ≤ i → i < n → ch i = ch' i) : ag n A B := by
  have hc := (chS_ps hn h.1).1.1
  obtain ⟨h1, ⟨y, y1, y2, y3⟩, h3, h4⟩ := h
  obtain ⟨g1, ⟨u, u1, u2, u3⟩, g3, g4⟩ := g
  have ex : x = x' := by
    have a := h3 u u1 u2
    have b := g3 y y1 y2
    rw [hw u (ch u) u1 u2 (hc u u1 u2).1 (hc u u1 u2).2, e u u1 u2] at a
    rw [← e y y1 y2, ← hw y (ch y) y1 y2 (hc y y1 y2).1 (hc y y1 y2).2] at b
    omega
  intro i j a b c d
  rw [h4 i j a b c d, g4 i j a b c d, e i a b, ex, hw i j a b c d]
/-- a step that a lesser rule does just so -/
theorem NW_step (hn : 1 ≤ n ∧ n ≤ 8) {l : Nat} {W : Int → Int → Int} {P z : Int} (hr : ∀ k, k ≠ l → rs k = rs' k) (h : RC n W0 rs l W P) (hs : nil0 n W ∨ ∃ U U' A B ch ch' x x', ag n U W ∧ ag n U' W ∧ stp n (rs l) U A ch x ∧ stp n (rs' l) U' B ch' x' ∧ ∀ i, 0 ≤ i → i < n → ch i = ch' i) (g : NW n W0 rs z) : NW n W0 rs' z := by
  have go : ∀ (j : Nat) (V : Int → Int → Int) (Q : Int), RC n W0 rs j V Q → RC n W0 rs' j V Q := fun j => by
    induction j with
    | zero => intro V Q q; exact q
    | succ j ih =>
      rintro V Q ⟨V1, Q1, q1, q2⟩
      by_cases w : j = l
      · subst w
        obtain ⟨e, e2⟩ := RC_un hn (ag_rf _ _) q1 h
        rcases q2 with q2 | ⟨ch1, x1, s1, c1⟩
        · exact ⟨V1, Q1, ih V1 Q1 q1, Or.inl q2⟩
        · rcases hs with hs | ⟨U, U', A, B, ch, ch', x, x', ua, ub, sa, sb, sc⟩
          · exact absurd (nil_ag e.sy hs) (fun y => stp_no hn s1 (ag_rf _ _) y)
          · obtain ⟨a1, -, -⟩ := stp_un hn (e.tr ua.sy) s1 sa
            have a2 := stp_same hn (ua.tr ub.sy) sa sb sc
            exact ⟨U', Q1, RC_ag (e.tr ub.sy) (ih V1 Q1 q1), Or.inr ⟨ch', x', stp_cc (fun _ _ _ => rfl) (a1.tr a2) sb, c1⟩⟩
      · refine ⟨V1, Q1, ih V1 Q1 q1, ?_⟩
        rw [← hr j w]; exact q2
  obtain ⟨j, V, g1, g2⟩ := g
  exact ⟨j, V, go j V z g1, g2⟩
end K19
def rwd (w : Int) (k : Nat) : Int := if k = 0 then w / 64 % 4 else if k = 1 then w / 16 % 4 else if k = 2 then w / 4 % 4 else w % 4
def BSx (n : Int) (W0 : Int → Int → Int) (x p r : Int) : Prop := (x = 0 ∧ p = 65) ∨ ((0 ≤ r ∧ r < x) ∧ NW n W0 (rwd r) p ∧ p ≤ 64 ∧ ∀ w z, 0 ≤ w → w < x → NW n W0 (rwd w) z → p < z ∨ (p = z ∧ r ≤ w))
section K19b
variable {n x p r : Int} {W0 : Int → Int → Int}
theorem BS_new {z : Int} (hn : 1 ≤ n ∧ n ≤ 8) (h : BSx n W0 x p r) (hx : 0 ≤ x) (hz : NW n W0 (rwd x) z) (h64 : z ≤ 64) (hlt : z < p) : BSx n W0 (x + 1) z x := by
  refine Or.inr ⟨⟨hx, by omega⟩, hz, h64, fun w y a b q => ?_⟩
  rcases (by omega : w < x ∨ w = x) with u | u
  · rcases h with ⟨h, -⟩ | ⟨-, -, -, h⟩
    · omega
    · have := h w y a u q; omega
  · subst u
    have := NW_un hn (ag_rf _ _) hz q
    omega
theorem BS_old (h : BSx n W0 x p r) (hp : p ≤ 64) (hz : ∀ z, NW n W0 (rwd x) z → p ≤ z) : BSx n W0 (x + 1) p r := by
  rcases h with ⟨-, h⟩ | ⟨h1, h2, h3, h4⟩
  · omega
  · refine Or.inr ⟨⟨h1.1, by omega⟩, h2, h3, fun w y a b q => ?_⟩
    rcases (by omega : w < x ∨ w = x) with u | u
    · exact h4 w y a u q
    · subst u
      have := hz y q
      omega
theorem BS_skip {y : Int} (h : BSx n W0 x p r) (hx : 1 ≤ x) (hy : x ≤ y) (hs : ∀ w z, x ≤ w → w < y → NW n W0 (rwd w) z → ∃ w', 0 ≤ w' ∧ w' < x ∧ NW n W0 (rwd w') z) : BSx n W0 y p r := by
  rcases h with ⟨h, -⟩ | ⟨h1, h2, h3, h4⟩
  · omega
  · refine Or.inr ⟨⟨h1.1, by omega⟩, h2, h3, fun w z a b q => ?_⟩
    by_cases u : w < x
    · exact h4 w z a u q
    · obtain ⟨w', a1, a2, a3⟩ := hs w z (by omega) b q
      have := h4 w' z a1 a2 a3
      omega
theorem BS_un {V0 : Int → Int → Int} {p' r' : Int} (hn : 1 ≤ n ∧ n ≤ 8) (e : ag n W0 V0) (hx : 1 ≤ x) (h : BSx n W0 x p r) (g : BSx n V0 x p' r') : p = p' ∧ r = r' := by
  rcases h with ⟨h, -⟩ | ⟨h1, h2, h3, h4⟩
  · omega
  · rcases g with ⟨g, -⟩ | ⟨g1, g2, g3, g4⟩
    · omega
    · have a := h4 r' p' g1.1 g1.2 (NW_w0 e.sy g2)
      have b := g4 r p h1.1 h1.2 (NW_w0 e h2)
      omega
end K19b
/-- a choice as one number -/
def chN (ch : Int → Int) : Nat → Int
  | 0 => 0
  | k + 1 => chN ch k * 8 + ch k
theorem chN_in {ch ch' : Int → Int} : ∀ {k : Nat}, (∀ i : Int, 0 ≤ i → i < k → (0 ≤ ch i ∧ ch i < 8) ∧ 0 ≤ ch' i ∧ ch' i < 8) → chN ch k = chN ch' k → ∀ i : Int, 0 ≤ i → i < k → ch i = ch' i
  | 0, _, _, i, a, b => by omega
  | k + 1, h, e, i, a, b => by
    have hk := h (k : Int) (by omega) (by omega)
    have e : chN ch k * 8 + ch k = chN ch' k * 8 + ch' k := e
    rcases (by omega : i < k ∨ i = k) with u | u
    · exact chN_in (fun i p q => h i p (by omega)) (by omega) i a u
    · rw [u]; omega
theorem chN_bd {ch : Int → Int} : ∀ {k : Nat}, k ≤ 4 → (∀ i : Int, 0 ≤ i → i < k → 0 ≤ ch i ∧ ch i < 8) → 0 ≤ chN ch k ∧ chN ch k < 8 ^ k
  | 0, _, _ => ⟨Int.le_refl _, by show (0 : Int) < 8 ^ 0; decide⟩
  | k + 1, hk, h => by
    have a := chN_bd (k := k) (by omega) (fun i p q => h i p (by omega))
    have b := h (k : Int) (by omega) (by omega)
    rw [chN, Int.pow_succ]
    omega
def NMp (n : Int) (W : Int → Int → Int) (v r : Int) : Prop := (nil0 n W ∧ v = -1) ∨ (∃ U ch w A, ag n U W ∧ stp n r U A ch w ∧ v = chN ch n.toNat)
theorem NMp_ag {n v r : Int} {W V : Int → Int → Int} (e : ag n W V) (h : NMp n W v r) : NMp n V v r := by
  rcases h with ⟨h, q⟩ | ⟨U, ch, w, A, u, h, q⟩
  · exact Or.inl ⟨nil_ag e h, q⟩
  · exact Or.inr ⟨U, ch, w, A, u.tr e, h, q⟩
theorem NMp_eq {n v r r' : Int} {W : Int → Int → Int} (hn : 1 ≤ n ∧ n ≤ 8) (h : NMp n W v r) (g : NMp n W v r') : nil0 n W ∨ ∃ U U' A B ch ch' x x', ag n U W ∧ ag n U' W ∧ stp n r U A ch x ∧ stp n r' U' B ch' x' ∧ ∀ i, 0 ≤ i → i < n → ch i = ch' i := by
  rcases h with ⟨h, -⟩ | ⟨U, ch, w, A, u, h, e⟩
  · exact Or.inl h
  · rcases g with ⟨g, -⟩ | ⟨U', ch', w', B, u', g, e'⟩
    · exact Or.inl g
    · have p := (chS_ps hn h.1).1.1
      have p' := (chS_ps hn g.1).1.1
      refine Or.inr ⟨U, U', A, B, ch, ch', w, w', u, u', h, g, fun i a b => ?_⟩
      exact chN_in (k := n.toNat) (fun i a b => by have x := p i a (by omega); have y := p' i a (by omega); omega) (by rw [← e, ← e']) i a (by omega)
/-- all words that go on from a step that a lesser rule did just so -/
theorem BS_same {n x p r y d v : Int} {W0 W : Int → Int → Int} {l : Nat} {P : Int} {rs : Nat → Int} (hn : 1 ≤ n ∧ n ≤ 8) (h : BSx n W0 x p r) (hd : 1 ≤ d ∧ d ≤ x) (hy : x ≤ y) (hR : RC n W0 rs l W P) (hpre : ∀ w, x ≤ w → w < y → ∀ k, k < l → rwd w k = rs k) (hdig : ∀ w, x ≤ w → w < y → ∀ k, k ≠ l → rwd w k = rwd (w - d) k) (h1 : ∀ w, x ≤ w → w < y → NMp n W v (rwd w l) ∧ NMp n W v (rwd (w - d) l)) (hyx : y ≤ x + d) : BSx n W0 y p r := by
  refine BS_skip h (by omega) hy (fun w z a b q => ⟨w - d, by omega, by omega, ?_⟩)
  have hR' : RC n W0 (rwd w) l W P := RC_rs (fun k hk => (hpre w a b k hk).symm) hR
  exact NW_step hn (hdig w a b) hR' (NMp_eq hn (h1 w a b).1 (h1 w a b).2) q
end
section
/-! SEEK, the class -/
theorem np2_ag {n : Int} {W V : Int → Int → Int} (e : ag n W V) : np2 n W = np2 n V := sm_cg (fun i a b => sm_cg (fun j c d => by rw [e i j a (by omega) c (by omega)]))
def LVL (n m : Int) (W0 : Int → Int → Int) (rs : Nat → Int) (j p q : Nat) (ρ : eS) : Prop := ρ p 2 = n ∧ bd64 ρ q ∧ (0 ≤ ρ p 3 ∧ ρ p 3 ≤ m) ∧ EvW n (pk ρ q) (ρ p 3) ∧ RC n W0 rs j (pk ρ q) (ρ p 4) ∧ (0 ≤ ρ p 4 ∧ ρ p 4 + np2 n (pk ρ q) ≤ 64)
section K20
variable {n m : Int} {W0 : Int → Int → Int} {rs rs' : Nat → Int} {j p q p' q' : Nat} {ρ τ : eS}
theorem LVL_cp (hn : 1 ≤ n ∧ n ≤ 8) (h : LVL n m W0 rs j p' q' ρ) (e2 : τ p 2 = ρ p' 2) (e3 : τ p 3 = ρ p' 3) (e4 : τ p 4 = ρ p' 4) (eq : ∀ k, 0 ≤ k → k < 64 → τ q k = ρ q' k) : LVL n m W0 rs j p q τ := by
  obtain ⟨h1, h2, h3, h4, h5, h6⟩ := h
  have e : ag n (pk ρ q') (pk τ q) := fun a b x y z w => (eq _ (by omega) (by omega)).symm
  exact ⟨by rw [e2, h1], fun k a b => by rw [eq k a b]; exact h2 k a b, by rw [e3]; exact h3, by rw [e3]; exact EvW_cg h4 (fun a b x y z w => (e a b x y z w).symm), by rw [e4]; exact RC_ag e h5, by rw [e4, ← np2_ag e]; exact h6⟩
theorem LVL_rs (h : LVL n m W0 rs j p q ρ) (e : ∀ k, k < j → rs k = rs' k) : LVL n m W0 rs' j p q ρ := ⟨h.1, h.2.1, h.2.2.1, h.2.2.2.1, RC_rs e h.2.2.2.2.1, h.2.2.2.2.2⟩
theorem LVL_no (h : LVL n m W0 rs j p q ρ) (h0 : ρ p 3 = 0) : LVL n m W0 rs (j + 1) p q ρ := by
  obtain ⟨h1, h2, h3, h4, h5, h6⟩ := h
  have z : nil0 n (pk ρ q) := by rw [h0] at h4; exact EvW_0 h4
  exact ⟨h1, h2, h3, h4, ⟨_, _, h5, Or.inl ⟨z, ag_rf _ _, rfl⟩⟩, h6⟩
theorem LVL_tk {r : Int} (hn : 1 ≤ n ∧ n ≤ 8) (hm : m ≤ 799999992) (h : LVL n m W0 rs j p q ρ) (hl : 1 ≤ ρ p 3) (hr : rs j = r) (hpq : p ≠ q ∧ 20 ≤ p) (g : QTp p q r (ρ p 3) ρ τ) : LVL n m W0 rs (j + 1) p q τ := by
  obtain ⟨h1, h2, h3, h4, h5, h6⟩ := h
  obtain ⟨g1, -, -, g4, g5, g6, g7⟩ := g
  rw [h1] at g7
  obtain ⟨w1, w2, w3, w4⟩ := stp_ev hn h4 g7
  have b := np2_bd (n := n) ⟨by omega, hn.2⟩ (pk τ q)
  have e2 : τ p 2 = n := by rw [g1 p 2 (by simp only [rgPe]; omega), h1]
  have e4 : τ p 4 = ρ p 4 + 1 := by rw [g6, wr_id ⟨by omega, by omega⟩]
  exact ⟨e2, g4, by omega, by rw [g5]; exact w3, ⟨_, _, h5, Or.inr ⟨_, _, by rw [hr]; exact g7, e4⟩⟩, by omega⟩
theorem LVL_z (hn : 1 ≤ n ∧ n ≤ 8) (h : LVL n m W0 rs j p q ρ) : (ρ p 3 = 0 → nil0 n (pk ρ q)) ∧ (1 ≤ ρ p 3 → ¬ nil0 n (pk ρ q) ∧ ρ p 4 ≤ 63) := by
  obtain ⟨h1, h2, h3, h4, h5, h6⟩ := h
  refine ⟨fun q => by rw [q] at h4; exact EvW_0 h4, fun q => ?_⟩
  have := np2_pos hn h4 q
  refine ⟨fun z => ?_, by omega⟩
  obtain ⟨f, hf, hp⟩ := birk h4 (by omega) (by omega)
  have a := hf.1 0 (by omega) (by omega)
  have b := hp 0 (by omega) (by omega)
  have c := z 0 (f 0) (by omega) (by omega) a.1 a.2
  omega
end K20
theorem t_Pe_startLike {σ : eS} {p q p' q' : Nat} (hp : pP p q) (hp' : pP p' q') (hne : p' ≠ p) (hne2 : q' ≠ q) : MtV shA M_Pe_startLike [vr p, vr p'] σ (fun σ' => fr (rgP0 p q) σ σ' ∧ σ' p 2 = σ p' 2 ∧ σ' p 3 = σ p' 3 ∧ σ' p 4 = σ p' 4 ∧ ∀ k, 0 ≤ k → k < 64 → σ' q k = σ q' k) := by
  refine Mt.of okM_Pe_startLike (Nat.le_of_ble_eq_true rfl) (fun hk hg => ?_)
  obtain ⟨n0, n1, n2, n3, n4⟩ := pP_n hp
  obtain ⟨m0, m1, m2, m3, m4⟩ := pP_n hp'
  obtain ⟨τ, eτ⟩ : ∃ τ, τ = cp σ q' 0 q 0 64 := ⟨_, rfl⟩
  have f : fr (fun c _ => c = q) σ τ := by rw [eτ]; exact fr_cp (fun k _ _ => rfl)
  have e : ∀ k, 0 ≤ k → k < 64 → τ q k = σ q' k := fun k a b => by rw [eτ]; unfold cp; rw [if_pos ⟨rfl, by omega, by omega⟩]; congr 1; omega
  have e1 : τ p' 2 = σ p' 2 := f p' 2 (by omega)
  have e3 : τ p' 3 = σ p' 3 := f p' 3 (by omega)
  have e4 : τ p' 4 = σ p' 4 := f p' 4 (by omega)
  refine ok_aload_n 0 rfl rfl rfl (ok_getR 1 rfl rfl fl_X5_9 (sP hp') rfl (ok_iconst 2 rfl rfl (by decide) (ok_aload_n 3 rfl rfl rfl (ok_getR 4 rfl rfl fl_X5_9 (sP hp) rfl (ok_iconst 5 rfl rfl (by decide) (ok_bipush 6 rfl rfl (by decide) (by decide) (ok_copy 7 rfl rfl (wd3 104 rfl rfl) ⟨Nat.le_of_ble_eq_true rfl, Nat.le_of_ble_eq_true rfl⟩ (sQ hp') (sQ hp) (by decide) (by decide) (by decide) (by decide) (by decide) ?_)))))))
  rw [← eτ]
  refine ok_aload_n 8 rfl rfl rfl (ok_aload_n 9 rfl rfl rfl (ok_getI 10 rfl rfl fl_X5_15 (sP hp') rfl (Or.inl rfl) (ok_putI 11 rfl rfl fl_X5_15 (sP hp) rfl rfl rfl (ok_aload_n 12 rfl rfl rfl (ok_aload_n 13 rfl rfl rfl (ok_getI 14 rfl rfl fl_X5_19 (sP hp') rfl (Or.inl rfl) (ok_putI 15 rfl rfl fl_X5_19 (sP hp) rfl rfl rfl (ok_aload_n 16 rfl rfl rfl (ok_aload_n 17 rfl rfl rfl (ok_getI 18 rfl rfl fl_X5_22 (sP hp') rfl (Or.inl rfl) (ok_putI 19 rfl rfl fl_X5_22 (sP hp) rfl rfl rfl (ok_vret 20 rfl rfl rfl ?_))))))))))))
  refine ⟨rfl, fr_up (fr_up (fr_up (f.mono (fun c k w => Or.inr w)) (by simp [rgP0])) (by simp [rgP0])) (by simp [rgP0]), ?_, ?_, ?_, fun k a b => ?_⟩
  · rw [up_nk _ _ _ _ (by decide), up_nk _ _ _ _ (by decide), up_same, e1]
  · rw [up_nk _ _ _ _ (by decide), up_same, up_ne _ _ _ _ hne, e3]
  · rw [up_same, up_ne _ _ _ _ hne, up_ne _ _ _ _ hne, e4]
  · rw [up_ne _ _ _ _ (Ne.symm n1), up_ne _ _ _ _ (Ne.symm n1), up_ne _ _ _ _ (Ne.symm n1), e k a b]
theorem t_Pe_choiceNumber {σ : eS} {p q : Nat} (hp : pP p q) (hn : 1 ≤ σ p 2 ∧ σ p 2 ≤ 4) (hC : iCh σ) : MtI shA M_Pe_choiceNumber [vr p] σ (fun σ' z => σ' = σ ∧ z = chN (fun i => σ 17 i) (σ p 2).toNat) := by
  refine Mt.of okM_Pe_choiceNumber (Nat.le_of_ble_eq_true rfl) (fun hk hg => ?_)
  refine ok_iconst 0 rfl rfl (by decide) (ok_ist1 1 rfl rfl rfl (ok_iconst 2 rfl rfl (by decide) (ok_ist2 3 rfl rfl rfl ?_)))
  refine lpO2 (fun v i : Int => [some (vr p), some (vi v), some (vi i)]) (fun _ _ => σ) (fun v i => 0 ≤ i ∧ i ≤ σ p 2 ∧ v = chN (fun i => σ 17 i) i.toNat) (fun _ i => (8 - i).toNat) ?_ 0 0 ⟨by omega, by omega, rfl⟩
  rintro v i ⟨i1, i2, i3⟩ ih
  have vb := chN_bd (ch := fun i => σ 17 i) (k := i.toNat) (by omega) (fun x a b => by have := hC x a (by omega); (try dsimp only); omega)
  rw [← i3] at vb
  have v4 : (8 : Int) ^ i.toNat ≤ 4096 := by
    rcases (by omega : i.toNat = 0 ∨ i.toNat = 1 ∨ i.toNat = 2 ∨ i.toNat = 3 ∨ i.toNat = 4) with q | q | q | q | q <;> rw [q] <;> decide
  refine ok_iload_n 4 rfl rfl rfl (ok_aload_n 5 rfl rfl rfl (ok_getI 6 rfl rfl fl_X5_15 (sP hp) rfl (Or.inl rfl) (ok_icmp_ge 7 33 rfl rfl rfl (fun h9 => ?_) (fun h9 => ?_))))
  · refine ok_iload_n 20 rfl rfl rfl (ok_iret 21 rfl rfl rfl ?_)
    exact ⟨_, rfl, rfl, by rw [i3, show i = σ p 2 by omega]⟩
  · have ci := hC i i1 (by omega)
    refine ok_iload_n 8 rfl rfl rfl (ok_bipush 9 rfl rfl (by decide) (by decide) (ok_imul 10 rfl rfl (by first | omega | (simp [up_if]; omega) | (simp [up_if] at *; omega)) (ok_aload_n 11 rfl rfl rfl (ok_getR 12 rfl rfl fl_X5_28 (sP hp) rfl (ok_getR 13 rfl rfl fl_X5_66 rfl rfl (ok_iload_n 14 rfl rfl rfl (ok_iald 15 rfl rfl rfl (by first | omega | (simp [up_if]; omega) | (simp [up_if] at *; omega)) (ok_iadd 16 rfl rfl (by first | omega | (simp [up_if]; omega) | (simp [up_if] at *; omega)) (ok_ist1 17 rfl rfl rfl (ok_inc2 18 rfl rfl rfl (by first | omega | (simp [up_if]; omega) | (simp [up_if] at *; omega)) (ok_goto 19 4 rfl rfl rfl ?_)))))))))))
    refine ih _ (i + 1) ⟨by omega, by omega, ?_⟩ (by omega)
    rw [show (i + 1).toNat = i.toNat + 1 by omega, chN, ← i3, Int.toNat_of_nonneg i1]
abbrev rgNX (p : Nat) (x : Int) : Nat → Int → Prop := fun c k => (c = p ∧ 2 ≤ k ∧ k ≤ 5) ∨ c = p + 5 ∨ (16 ≤ c ∧ c ≤ 19) ∨ (c = 27 ∧ k = x)
theorem t_Se_isNewStep {σ : eS} {l r n m : Int} {W0 : Int → Int → Int} {rs : Nat → Int} (hl : 0 ≤ l ∧ l ≤ 2) (hr : 0 ≤ r ∧ r ≤ 3) (hn : 1 ≤ n ∧ n ≤ 4) (hm : m ≤ 799999992) (hC : iCh σ) (hS : iSe σ) (hS2 : σ 16 3 < 2147483647) (hrs : rs l.toNat = r) (hL : LVL n m W0 rs l.toNat (l.toNat + 30) (l.toNat + 35) σ) : MtI shA M_Se_isNewStep [vr 25, vi l, vi r] σ (fun σ' z => fr (rgNX ((l + 1).toNat + 30) (l * 4 + r)) σ σ' ∧ iCh σ' ∧ cSe σ σ' 1 ∧ LVL n m W0 rs (l.toNat + 1) ((l + 1).toNat + 30) ((l + 1).toNat + 35) σ' ∧ NMp n (pk σ (l.toNat + 35)) (σ' 27 (l * 4 + r)) r ∧ (z = 1 ∨ (z = 0 ∧ ∃ x, 0 ≤ x ∧ x < r ∧ σ 27 (l * 4 + x) = σ' 27 (l * 4 + r)))) := by
  refine Mt.of okM_Se_isNewStep (Nat.le_of_ble_eq_true rfl) (fun hk hg => ?_)
  have n8 : 1 ≤ n ∧ n ≤ 8 := ⟨hn.1, by omega⟩
  have hp := lv_pP (j := l) ⟨by omega, by omega⟩
  have hp' := lv_pP (j := l + 1) ⟨by omega, by omega⟩
  obtain ⟨P, eP⟩ : ∃ P, P = (l + 1).toNat + 30 := ⟨_, rfl⟩
  have eQ : (l + 1).toNat + 35 = P + 5 := by omega
  rw [eQ] at hp' ⊢
  rw [← eP] at hp' ⊢
  have tail : ∀ (τ : eS) (v : Int), fr (fun c k => (c = P ∧ 2 ≤ k ∧ k ≤ 5) ∨ c = P + 5 ∨ (16 ≤ c ∧ c ≤ 19)) σ τ → iCh τ → cSe σ τ 1 → LVL n m W0 rs (l.toNat + 1) P (P + 5) τ → NMp n (pk σ (l.toNat + 35)) v r → Ok shA M_Se_isNewStep 40 [some (vr 25), some (vi l), some (vi r), some (vr P), some (vi v), none, none] [] τ (fun σ' x => ∃ z, x = some (vi z) ∧ fr (rgNX P (l * 4 + r)) σ σ' ∧ iCh σ' ∧ cSe σ σ' 1 ∧ LVL n m W0 rs (l.toNat + 1) P (P + 5) σ' ∧ NMp n (pk σ (l.toNat + 35)) (σ' 27 (l * 4 + r)) r ∧ (z = 1 ∨ (z = 0 ∧ ∃ x, 0 ≤ x ∧ x < r ∧ σ 27 (l * 4 + x) = σ' 27 (l * 4 + r)))) := by
    intro τ v f c hk0 hL1 hN
    refine ok_iload_n 24 rfl rfl rfl (ok_iconst 25 rfl rfl (by decide) (ok_imul 26 rfl rfl (by first | omega | (simp [up_if]; omega) | (simp [up_if] at *; omega)) (ok_ist5 27 rfl rfl rfl (ok_aload_n 28 rfl rfl rfl (ok_getR 29 rfl rfl fl_X7_17 rfl rfl (ok_iload 30 rfl rfl rfl (ok_iload_n 31 rfl rfl rfl (ok_iadd 32 rfl rfl (by first | omega | (simp [up_if]; omega) | (simp [up_if] at *; omega)) (ok_iload 33 rfl rfl rfl (ok_iast 34 rfl rfl rfl (by first | omega | (simp [up_if]; omega) | (simp [up_if] at *; omega)) (ok_iconst 35 rfl rfl (by decide) (ok_ist6 36 rfl rfl rfl ?_))))))))))))
    have f2 : fr (rgNX P (l * 4 + r)) σ (up τ 27 (l * 4 + r) v) := fr_up (f.mono (fun c k w => by simp only [rgNX]; omega)) (by simp [rgNX])
    have c2 : iCh (up τ 27 (l * 4 + r) v) := iCh_cg c (fun k => up_ne _ _ _ _ (by decide))
    have m2 : cSe σ (up τ 27 (l * 4 + r) v) 1 := ⟨iSe_cg hk0.1 (up_ne _ _ _ _ (by decide)) (fun k => up_ne _ _ _ _ (by decide)), by rw [up_ne _ _ _ _ (by decide)]; exact hk0.2.1, by rw [up_ne _ _ _ _ (by decide)]; exact hk0.2.2⟩
    have h2 : LVL n m W0 rs (l.toNat + 1) P (P + 5) (up τ 27 (l * 4 + r) v) := LVL_cp n8 hL1 (up_ne _ _ _ _ (by omega)) (up_ne _ _ _ _ (by omega)) (up_ne _ _ _ _ (by omega)) (fun k _ _ => up_ne _ _ _ _ (by omega))
    have n2 : NMp n (pk σ (l.toNat + 35)) (up τ 27 (l * 4 + r) v 27 (l * 4 + r)) r := by rw [up_same]; exact hN
    refine lpO (fun i : Int => [some (vr 25), some (vi l), some (vi r), some (vr P), some (vi v), some (vi (l * 4)), some (vi i)]) (fun _ => up τ 27 (l * 4 + r) v) (fun i => 0 ≤ i ∧ i ≤ 3) (fun i => (4 - i).toNat) ?_ 0 ⟨by omega, by omega⟩
    rintro i ⟨i1, i2⟩ ih
    refine ok_iload 37 rfl rfl rfl (ok_iload_n 38 rfl rfl rfl (ok_icmp_ge 39 88 rfl rfl rfl (fun h62 => ?_) (fun h62 => ?_)))
    · refine ok_iconst 52 rfl rfl (by decide) (ok_zret 53 rfl rfl rfl (by first | omega | (simp [up_if]; omega) | (simp [up_if] at *; omega)) ?_)
      exact ⟨_, rfl, f2, c2, m2, h2, n2, Or.inl rfl⟩
    · have ei : up τ 27 (l * 4 + r) v 27 (l * 4 + i) = σ 27 (l * 4 + i) := by rw [up_nk _ _ _ _ (by omega), f 27 _ (by omega)]
      refine ok_aload_n 40 rfl rfl rfl (ok_getR 41 rfl rfl fl_X7_17 rfl rfl (ok_iload 42 rfl rfl rfl (ok_iload 43 rfl rfl rfl (ok_iadd 44 rfl rfl (by first | omega | (simp [up_if]; omega) | (simp [up_if] at *; omega)) (ok_iald 45 rfl rfl rfl (by first | omega | (simp [up_if]; omega) | (simp [up_if] at *; omega)) (ok_iload 46 rfl rfl rfl (ok_icmp_ne 47 82 rfl rfl rfl (fun h77 => ?_) (fun h77 => ?_))))))))
      · refine ok_inc6 50 rfl rfl rfl (by first | omega | (simp [up_if]; omega) | (simp [up_if] at *; omega)) (ok_goto 51 59 rfl rfl rfl ?_)
        exact ih (i + 1) ⟨by omega, by omega⟩ (by omega)
      · refine ok_iconst 48 rfl rfl (by decide) (ok_zret 49 rfl rfl rfl (by first | omega | (simp [up_if]; omega) | (simp [up_if] at *; omega)) ?_)
        exact ⟨_, rfl, f2, c2, m2, h2, n2, Or.inr ⟨rfl, i, i1, by omega, by rw [up_same]; omega⟩⟩
  refine ok_aload_n 0 rfl rfl rfl (ok_getR 1 rfl rfl fl_X7_13 rfl rfl (ok_iload_n 2 rfl rfl rfl (ok_iconst 3 rfl rfl (by decide) (ok_iadd 4 rfl rfl (by first | omega | (simp [up_if]; omega) | (simp [up_if] at *; omega)) (ok_aald 5 P rfl rfl rfl (Or.inr rfl) (by omega) (by rw [eP]; exact lv_at5 (by omega)) (ok_ast3 6 rfl rfl rfl (ok_aload_n 7 rfl rfl rfl (ok_aload_n 8 rfl rfl rfl (ok_getR 9 rfl rfl fl_X7_13 rfl rfl (ok_iload_n 10 rfl rfl rfl (ok_aald 11 (l.toNat + 30) rfl rfl rfl (Or.inr rfl) (by omega) (lv_at5 (by omega)) (ok_callVV (M' := M_Pe_startLike) (as := [_]) 12 rfl rfl ml_X7_56 (t_Pe_startLike hp' hp (by omega) (by omega)) (sP hp') rfl (Nat.le_of_ble_eq_true rfl) ⟨Nat.le_of_ble_eq_true rfl, Nat.le_of_ble_eq_true rfl⟩ rfl (Nat.le_of_ble_eq_true rfl) (fun τ f => ?_)))))))))))))
  obtain ⟨f1, f2, f3, f4, f5⟩ := f
  have hL2 : LVL n m W0 rs l.toNat P (P + 5) τ := LVL_cp n8 hL f2 f3 f4 f5
  have g1 : fr (fun c k => (c = P ∧ 2 ≤ k ∧ k ≤ 5) ∨ c = P + 5 ∨ (16 ≤ c ∧ c ≤ 19)) σ τ := f1.mono (fun c k w => by simp only [rgP0] at w; omega)
  have g2 : iCh τ := iCh_cg hC (fun k => f1 17 k (by simp only [rgP0]; omega))
  have e16 : τ 16 3 = σ 16 3 := f1 16 3 (by simp only [rgP0]; omega)
  have g3 : cSe σ τ 0 := ⟨iSe_cg hS e16 (fun k => f1 19 k (by simp only [rgP0]; omega)), by omega, by omega⟩
  have l3 := hL2.2.2.1
  have agW : ag n (pk τ (P + 5)) (pk σ (l.toNat + 35)) := fun a b x y z w => f5 _ (by omega) (by omega)
  refine ok_iconst 13 rfl rfl (by decide) (ok_ist4 14 rfl rfl rfl (ok_aload_n 15 rfl rfl rfl (ok_getI 16 rfl rfl fl_X7_60 (sP hp') rfl (Or.inl rfl) (ok_if_le 17 40 rfl rfl rfl (fun h26 => ?_) (fun h26 => ?_)))))
  · exact tail τ (-1) g1 g2 ⟨g3.1, g3.2.1, by have := g3.2.2; omega⟩ (LVL_no hL2 (by omega)) (Or.inl ⟨nil_ag agW ((LVL_z n8 hL2).1 (by omega)), rfl⟩)
  · refine ok_aload_n 18 rfl rfl rfl (ok_iload_n 19 rfl rfl rfl (ok_callVV (M' := M_Pe_takePart) (as := [_]) 20 rfl rfl ml_X7_63 (t_Pe_takePart (m := τ P 3) hp' hr (by rw [hL2.1]; exact n8) hL2.2.1 rfl ⟨by omega, by omega⟩ (by rw [hL2.1]; exact hL2.2.2.2.1) g2 g3.1 (by omega)) (sP hp') rfl (Nat.le_of_ble_eq_true rfl) ⟨Nat.le_of_ble_eq_true rfl, Nat.le_of_ble_eq_true rfl⟩ rfl (Nat.le_of_ble_eq_true rfl) (fun υ u => ?_)))
    have uP : υ P 2 = n := by rw [u.1 P 2 (by simp only [rgPe]; omega), hL2.1]
    refine ok_aload_n 21 rfl rfl rfl (ok_callVI (M' := M_Pe_choiceNumber) (as := []) 22 rfl rfl ml_X7_67 (t_Pe_choiceNumber hp' (by rw [uP]; exact hn) u.2.1) (sP hp') rfl (Nat.le_of_ble_eq_true rfl) ⟨Nat.le_of_ble_eq_true rfl, Nat.le_of_ble_eq_true rfl⟩ rfl (Nat.le_of_ble_eq_true rfl) (fun σ' v hv => ?_))
    obtain ⟨hs_, hv⟩ := hv
    rw [hs_]; clear hs_ σ'
    refine ok_ist4 23 rfl rfl rfl ?_
    have hst := u.2.2.2.2.2.2
    rw [hL2.1] at hst
    refine tail υ v (g1.tr (u.1.mono (fun c k w => by simp only [rgPe] at w; omega))) u.2.1 ⟨u.2.2.1.1, by have := u.2.2.1.2; omega, by have := u.2.2.1.2; omega⟩ (LVL_tk n8 hm hL2 (by omega) hrs (by omega) u) (Or.inr ?_)
    rw [uP] at hv
    exact ⟨pk τ (P + 5), fun i => υ 17 i, υ P 5, pk υ (P + 5), agW, hst, hv⟩
theorem t_Se_finish {σ : eS} {t : Nat} {w n m : Int} {W0 : Int → Int → Int} (ht : tA t) (hn : 1 ≤ n ∧ n ≤ 4) (hm : m ≤ 799999992) (hw : 0 ≤ w ∧ w < 64) (hC : iCh σ) (hS : iSe σ) (hS2 : σ 16 3 + 256 < 2147483647) (hL : LVL n m W0 (rwd (4 * w)) 3 33 38 σ) (hB : BSx n W0 (4 * w) (σ t 7) (σ t 8)) : MtV shA M_Se_finish [vr 25, vr t, vi w] σ (fun σ' => fr (rgFin t) σ σ' ∧ iCh σ' ∧ cSe σ σ' 256 ∧ BSx n W0 (4 * w + 4) (σ' t 7) (σ' t 8)) := by
  refine Mt.of okM_Se_finish (Nat.le_of_ble_eq_true rfl) (fun hk hg => ?_)
  have nA := tA_10 ht
  have n8 : 1 ≤ n ∧ n ≤ 8 := ⟨hn.1, by omega⟩
  have hp : pP 34 39 := by unfold pP; omega
  have hp3 : pP 33 38 := by unfold pP; omega
  refine ok_aload_n 0 rfl rfl rfl (ok_getR 1 rfl rfl fl_X7_13 rfl rfl (ok_iconst 2 rfl rfl (by decide) (ok_aald 3 34 rfl rfl rfl (Or.inr rfl) (by omega) rfl (ok_ast3 4 rfl rfl rfl (ok_iconst 5 rfl rfl (by decide) (ok_ist4 6 rfl rfl rfl ?_))))))
  refine lpO2 (fun (i : Int) (_ : eS) => [some (vr 25), some (vr t), some (vi w), some (vr 34), some (vi i), none]) (fun _ ρ => ρ) (fun i ρ => 0 ≤ i ∧ i ≤ 4 ∧ fr (rgFin t) σ ρ ∧ iCh ρ ∧ cSe σ ρ (64 * i) ∧ BSx n W0 (4 * w + i) (ρ t 7) (ρ t 8)) (fun i _ => (4 - i).toNat) ?_ 0 σ ⟨by omega, by omega, fr.rf, hC, ⟨hS, by omega, by omega⟩, by rw [Int.add_zero]; exact hB⟩
  rintro i ρ ⟨i1, i2, f, c, hk0, hb⟩ ih
  refine ok_iload 7 rfl rfl rfl (ok_iconst 8 rfl rfl (by decide) (ok_icmp_ge 9 108 rfl rfl rfl (fun h13 => ?_) (fun h13 => ?_)))
  · refine ok_vret 55 rfl rfl rfl ?_
    exact ⟨rfl, f, c, ⟨hk0.1, hk0.2.1, by have := hk0.2.2; omega⟩, by rw [show (4 : Int) = i by omega] at hb ⊢; exact hb⟩
  · refine ok_aload_n 10 rfl rfl rfl (ok_aload_n 11 rfl rfl rfl (ok_getR 12 rfl rfl fl_X7_13 rfl rfl (ok_iconst 13 rfl rfl (by decide) (ok_aald 14 33 rfl rfl rfl (Or.inr rfl) (by omega) rfl (ok_callVV (M' := M_Pe_startLike) (as := [_]) 15 rfl rfl ml_X7_56 (t_Pe_startLike hp hp3 (by decide) (by decide)) rfl rfl (Nat.le_of_ble_eq_true rfl) ⟨Nat.le_of_ble_eq_true rfl, Nat.le_of_ble_eq_true rfl⟩ rfl (Nat.le_of_ble_eq_true rfl) (fun τ g => ?_))))))
    refine ok_iconst 16 rfl rfl (by decide) (ok_ist5 17 rfl rfl rfl ?_)
    obtain ⟨g1, g2, g3, g4, g5⟩ := g
    have rd : ∀ k, k < 3 → rwd (4 * w) k = rwd (4 * w + i) k := fun k hk => by
      unfold rwd
      rcases (by omega : k = 0 ∨ k = 1 ∨ k = 2) with q | q | q <;> subst q <;> simp <;> omega
    have hL0 : LVL n m W0 (rwd (4 * w + i)) 3 34 39 τ := LVL_cp n8 (LVL_rs hL rd) (by rw [g2, f 33 2 (by simp only [rgFin]; omega)]) (by rw [g3, f 33 3 (by simp only [rgFin]; omega)]) (by rw [g4, f 33 4 (by simp only [rgFin]; omega)]) (fun k a b => by rw [g5 k a b, f 38 k (by simp only [rgFin]; omega)])
    have e7 : τ t 7 = ρ t 7 := g1 t 7 (by simp only [rgP0]; omega)
    have e8 : τ t 8 = ρ t 8 := g1 t 8 (by simp only [rgP0]; omega)
    have e16 : τ 16 3 = ρ 16 3 := g1 16 3 (by simp only [rgP0]; omega)
    refine lpO2 (fun (j : Int) (_ : eS) => [some (vr 25), some (vr t), some (vi w), some (vr 34), some (vi i), some (vi j)]) (fun _ ρ => ρ) (fun j ρ => 0 ≤ j ∧ j ≤ 64 ∧ fr (rgFin t) σ ρ ∧ iCh ρ ∧ cSe σ ρ (64 * i + j) ∧ LVL n m W0 (rwd (4 * w + i)) (3 + j.toNat) 34 39 ρ ∧ j ≤ ρ 34 4 ∧ BSx n W0 (4 * w + i) (ρ t 7) (ρ t 8)) (fun j _ => (64 - j).toNat) ?_ 0 τ ⟨by omega, by omega, f.tr (g1.mono (fun c k w => by simp only [rgP0, rgFin] at w ⊢; omega)), iCh_cg c (fun k => g1 17 k (by simp only [rgP0]; omega)), ⟨iSe_cg hk0.1 e16 (fun k => g1 19 k (by simp only [rgP0]; omega)), by have := hk0.2; omega, by have := hk0.2; omega⟩, hL0, by have := hL0.2.2.2.2.2.1; omega, by rw [e7, e8]; exact hb⟩
    clear e7 e8 e16 hL0 g1 g2 g3 g4 g5 hk0 hb τ f c ρ
    rintro j ρ ⟨j1, j2, f, c, hk0, hL1, hj, hb⟩ ih2
    have l3 := hL1.2.2.1
    have lz := LVL_z n8 hL1
    have l6 := hL1.2.2.2.2.2
    have npb := np2_bd (n := n) ⟨by omega, n8.2⟩ (pk ρ 39)
    refine ok_iload 18 rfl rfl rfl (ok_bipush 19 rfl rfl (by decide) (by decide) (ok_icmp_ge 20 66 rfl rfl rfl (fun h33 => ?_) (fun h33 => ?_)))
    · have fin : ρ 34 3 ≤ 0 ∨ ρ t 7 ≤ ρ 34 4 := by
        by_cases y : 1 ≤ ρ 34 3
        · have := (lz.2 y).2
          omega
        · omega
      have t2 : ∀ ρ' : eS, fr (rgFin t) σ ρ' → iCh ρ' → cSe σ ρ' (64 * (i + 1)) → BSx n W0 (4 * w + (i + 1)) (ρ' t 7) (ρ' t 8) → i < 4 → Ok shA M_Se_finish 102 [some (vr 25), some (vr t), some (vi w), some (vr 34), some (vi i), some (vi j)] [] ρ' (fun σ' v => v = none ∧ fr (rgFin t) σ σ' ∧ iCh σ' ∧ cSe σ σ' 256 ∧ BSx n W0 (4 * w + 4) (σ' t 7) (σ' t 8)) := by
        intro ρ' f' c' k' b' hi4
        refine ok_inc4 53 rfl rfl rfl (by first | omega | (simp [up_if]; omega) | (simp [up_if] at *; omega)) (ok_goto 54 10 rfl rfl rfl ?_)
        exact ok_fg [some (vr 25), some (vr t), some (vi w), some (vr 34), some (vi (i + 1)), none] ⟨rfl, rfl, rfl, rfl, rfl, trivial⟩ (ih (i + 1) ρ' ⟨by omega, by omega, f', c', k', b'⟩ (by omega))
      have kk : cSe σ ρ (64 * (i + 1)) := ⟨hk0.1, hk0.2.1, by have := hk0.2.2; omega⟩
      have old : ρ t 7 ≤ ρ 34 4 → BSx n W0 (4 * w + (i + 1)) (ρ t 7) (ρ t 8) := fun y => by
        rw [← Int.add_assoc]
        refine BS_old hb (by omega) (fun z hz => ?_)
        by_cases q : ρ 34 3 = 0
        · have := NW_un n8 (ag_rf _ _) ⟨_, _, hL1.2.2.2.2.1, lz.1 q⟩ hz
          omega
        · have := NW_gt n8 hL1.2.2.2.2.1 (lz.2 (by omega)).1 hz
          omega
      refine ok_aload_n 34 rfl rfl rfl (ok_getI 35 rfl rfl fl_X7_60 rfl rfl (Or.inl rfl) (ok_if_ne 36 102 rfl rfl rfl (fun h70 => ?_) (fun h70 => ?_)))
      · exact t2 ρ f c kk (old (by omega)) (by omega)
      · refine ok_aload_n 37 rfl rfl rfl (ok_getI 38 rfl rfl fl_X7_71 rfl rfl (Or.inl rfl) (ok_aload_n 39 rfl rfl rfl (ok_getI 40 rfl rfl fl_X7_34 (sT ht) rfl (Or.inl rfl) (ok_icmp_ge 41 102 rfl rfl rfl (fun h81 => ?_) (fun h81 => ?_)))))
        · exact t2 ρ f c kk (old (by omega)) (by omega)
        · refine ok_aload_n 42 rfl rfl rfl (ok_aload_n 43 rfl rfl rfl (ok_getI 44 rfl rfl fl_X7_71 rfl rfl (Or.inl rfl) (ok_putI 45 rfl rfl fl_X7_34 (sT ht) rfl rfl rfl (ok_aload_n 46 rfl rfl rfl (ok_iload_n 47 rfl rfl rfl (ok_iconst 48 rfl rfl (by decide) (ok_imul 49 rfl rfl (by first | omega | (simp [up_if]; omega) | (simp [up_if] at *; omega)) (ok_iload 50 rfl rfl rfl (ok_iadd 51 rfl rfl (by first | omega | (simp [up_if]; omega) | (simp [up_if] at *; omega)) (ok_putI 52 rfl rfl fl_X7_74 (sT ht) rfl rfl rfl ?_))))))))))
          have hz : NW n W0 (rwd (4 * w + i)) (ρ 34 4) := ⟨_, _, hL1.2.2.2.2.1, lz.1 (by omega)⟩
          have hnew := BS_new n8 hb (by omega) hz (by omega) (by omega)
          refine t2 _ (fr_up (fr_up f (by simp [rgFin])) (by simp [rgFin])) (iCh_cg c (fun k => by rw [up_ne _ _ _ _ (by omega), up_ne _ _ _ _ (by omega)])) ⟨iSe_cg kk.1 (by rw [up_ne _ _ _ _ (by omega), up_ne _ _ _ _ (by omega)]) (fun k => by rw [up_ne _ _ _ _ (by omega), up_ne _ _ _ _ (by omega)]), by rw [up_ne _ _ _ _ (by omega), up_ne _ _ _ _ (by omega)]; exact kk.2.1, by rw [up_ne _ _ _ _ (by omega), up_ne _ _ _ _ (by omega)]; exact kk.2.2⟩ ?_ (by omega)
          rw [up_nk _ _ _ _ (by decide), up_same, up_same, ← Int.add_assoc]
          rw [show w * 4 + i = 4 * w + i by omega]
          exact hnew
    · refine ok_aload_n 21 rfl rfl rfl (ok_getI 22 rfl rfl fl_X7_60 rfl rfl (Or.inl rfl) (ok_if_le 23 66 rfl rfl rfl (fun h40 => ?_) (fun h40 => ?_)))
      · have fin : ρ 34 3 ≤ 0 ∨ ρ t 7 ≤ ρ 34 4 := by
          by_cases y : 1 ≤ ρ 34 3
          · have := (lz.2 y).2
            omega
          · omega
        have t2 : ∀ ρ' : eS, fr (rgFin t) σ ρ' → iCh ρ' → cSe σ ρ' (64 * (i + 1)) → BSx n W0 (4 * w + (i + 1)) (ρ' t 7) (ρ' t 8) → i < 4 → Ok shA M_Se_finish 102 [some (vr 25), some (vr t), some (vi w), some (vr 34), some (vi i), some (vi j)] [] ρ' (fun σ' v => v = none ∧ fr (rgFin t) σ σ' ∧ iCh σ' ∧ cSe σ σ' 256 ∧ BSx n W0 (4 * w + 4) (σ' t 7) (σ' t 8)) := by
          intro ρ' f' c' k' b' hi4
          refine ok_inc4 53 rfl rfl rfl (by first | omega | (simp [up_if]; omega) | (simp [up_if] at *; omega)) (ok_goto 54 10 rfl rfl rfl ?_)
          exact ok_fg [some (vr 25), some (vr t), some (vi w), some (vr 34), some (vi (i + 1)), none] ⟨rfl, rfl, rfl, rfl, rfl, trivial⟩ (ih (i + 1) ρ' ⟨by omega, by omega, f', c', k', b'⟩ (by omega))
        have kk : cSe σ ρ (64 * (i + 1)) := ⟨hk0.1, hk0.2.1, by have := hk0.2.2; omega⟩
        have old : ρ t 7 ≤ ρ 34 4 → BSx n W0 (4 * w + (i + 1)) (ρ t 7) (ρ t 8) := fun y => by
          rw [← Int.add_assoc]
          refine BS_old hb (by omega) (fun z hz => ?_)
          by_cases q : ρ 34 3 = 0
          · have := NW_un n8 (ag_rf _ _) ⟨_, _, hL1.2.2.2.2.1, lz.1 q⟩ hz
            omega
          · have := NW_gt n8 hL1.2.2.2.2.1 (lz.2 (by omega)).1 hz
            omega
        refine ok_aload_n 34 rfl rfl rfl (ok_getI 35 rfl rfl fl_X7_60 rfl rfl (Or.inl rfl) (ok_if_ne 36 102 rfl rfl rfl (fun h70 => ?_) (fun h70 => ?_)))
        · exact t2 ρ f c kk (old (by omega)) (by omega)
        · refine ok_aload_n 37 rfl rfl rfl (ok_getI 38 rfl rfl fl_X7_71 rfl rfl (Or.inl rfl) (ok_aload_n 39 rfl rfl rfl (ok_getI 40 rfl rfl fl_X7_34 (sT ht) rfl (Or.inl rfl) (ok_icmp_ge 41 102 rfl rfl rfl (fun h81 => ?_) (fun h81 => ?_)))))
          · exact t2 ρ f c kk (old (by omega)) (by omega)
          · refine ok_aload_n 42 rfl rfl rfl (ok_aload_n 43 rfl rfl rfl (ok_getI 44 rfl rfl fl_X7_71 rfl rfl (Or.inl rfl) (ok_putI 45 rfl rfl fl_X7_34 (sT ht) rfl rfl rfl (ok_aload_n 46 rfl rfl rfl (ok_iload_n 47 rfl rfl rfl (ok_iconst 48 rfl rfl (by decide) (ok_imul 49 rfl rfl (by first | omega | (simp [up_if]; omega) | (simp [up_if] at *; omega)) (ok_iload 50 rfl rfl rfl (ok_iadd 51 rfl rfl (by first | omega | (simp [up_if]; omega) | (simp [up_if] at *; omega)) (ok_putI 52 rfl rfl fl_X7_74 (sT ht) rfl rfl rfl ?_))))))))))
            have hz : NW n W0 (rwd (4 * w + i)) (ρ 34 4) := ⟨_, _, hL1.2.2.2.2.1, lz.1 (by omega)⟩
            have hnew := BS_new n8 hb (by omega) hz (by omega) (by omega)
            refine t2 _ (fr_up (fr_up f (by simp [rgFin])) (by simp [rgFin])) (iCh_cg c (fun k => by rw [up_ne _ _ _ _ (by omega), up_ne _ _ _ _ (by omega)])) ⟨iSe_cg kk.1 (by rw [up_ne _ _ _ _ (by omega), up_ne _ _ _ _ (by omega)]) (fun k => by rw [up_ne _ _ _ _ (by omega), up_ne _ _ _ _ (by omega)]), by rw [up_ne _ _ _ _ (by omega), up_ne _ _ _ _ (by omega)]; exact kk.2.1, by rw [up_ne _ _ _ _ (by omega), up_ne _ _ _ _ (by omega)]; exact kk.2.2⟩ ?_ (by omega)
            rw [up_nk _ _ _ _ (by decide), up_same, up_same, ← Int.add_assoc]
            rw [show w * 4 + i = 4 * w + i by omega]
            exact hnew
      · refine ok_aload_n 24 rfl rfl rfl (ok_getI 25 rfl rfl fl_X7_71 rfl rfl (Or.inl rfl) (ok_aload_n 26 rfl rfl rfl (ok_getI 27 rfl rfl fl_X7_34 (sT ht) rfl (Or.inl rfl) (ok_icmp_ge 28 66 rfl rfl rfl (fun h51 => ?_) (fun h51 => ?_)))))
        · have fin : ρ 34 3 ≤ 0 ∨ ρ t 7 ≤ ρ 34 4 := by
            by_cases y : 1 ≤ ρ 34 3
            · have := (lz.2 y).2
              omega
            · omega
          have t2 : ∀ ρ' : eS, fr (rgFin t) σ ρ' → iCh ρ' → cSe σ ρ' (64 * (i + 1)) → BSx n W0 (4 * w + (i + 1)) (ρ' t 7) (ρ' t 8) → i < 4 → Ok shA M_Se_finish 102 [some (vr 25), some (vr t), some (vi w), some (vr 34), some (vi i), some (vi j)] [] ρ' (fun σ' v => v = none ∧ fr (rgFin t) σ σ' ∧ iCh σ' ∧ cSe σ σ' 256 ∧ BSx n W0 (4 * w + 4) (σ' t 7) (σ' t 8)) := by
            intro ρ' f' c' k' b' hi4
            refine ok_inc4 53 rfl rfl rfl (by first | omega | (simp [up_if]; omega) | (simp [up_if] at *; omega)) (ok_goto 54 10 rfl rfl rfl ?_)
            exact ok_fg [some (vr 25), some (vr t), some (vi w), some (vr 34), some (vi (i + 1)), none] ⟨rfl, rfl, rfl, rfl, rfl, trivial⟩ (ih (i + 1) ρ' ⟨by omega, by omega, f', c', k', b'⟩ (by omega))
          have kk : cSe σ ρ (64 * (i + 1)) := ⟨hk0.1, hk0.2.1, by have := hk0.2.2; omega⟩
          have old : ρ t 7 ≤ ρ 34 4 → BSx n W0 (4 * w + (i + 1)) (ρ t 7) (ρ t 8) := fun y => by
            rw [← Int.add_assoc]
            refine BS_old hb (by omega) (fun z hz => ?_)
            by_cases q : ρ 34 3 = 0
            · have := NW_un n8 (ag_rf _ _) ⟨_, _, hL1.2.2.2.2.1, lz.1 q⟩ hz
              omega
            · have := NW_gt n8 hL1.2.2.2.2.1 (lz.2 (by omega)).1 hz
              omega
          refine ok_aload_n 34 rfl rfl rfl (ok_getI 35 rfl rfl fl_X7_60 rfl rfl (Or.inl rfl) (ok_if_ne 36 102 rfl rfl rfl (fun h70 => ?_) (fun h70 => ?_)))
          · exact t2 ρ f c kk (old (by omega)) (by omega)
          · refine ok_aload_n 37 rfl rfl rfl (ok_getI 38 rfl rfl fl_X7_71 rfl rfl (Or.inl rfl) (ok_aload_n 39 rfl rfl rfl (ok_getI 40 rfl rfl fl_X7_34 (sT ht) rfl (Or.inl rfl) (ok_icmp_ge 41 102 rfl rfl rfl (fun h81 => ?_) (fun h81 => ?_)))))
            · exact t2 ρ f c kk (old (by omega)) (by omega)
            · refine ok_aload_n 42 rfl rfl rfl (ok_aload_n 43 rfl rfl rfl (ok_getI 44 rfl rfl fl_X7_71 rfl rfl (Or.inl rfl) (ok_putI 45 rfl rfl fl_X7_34 (sT ht) rfl rfl rfl (ok_aload_n 46 rfl rfl rfl (ok_iload_n 47 rfl rfl rfl (ok_iconst 48 rfl rfl (by decide) (ok_imul 49 rfl rfl (by first | omega | (simp [up_if]; omega) | (simp [up_if] at *; omega)) (ok_iload 50 rfl rfl rfl (ok_iadd 51 rfl rfl (by first | omega | (simp [up_if]; omega) | (simp [up_if] at *; omega)) (ok_putI 52 rfl rfl fl_X7_74 (sT ht) rfl rfl rfl ?_))))))))))
              have hz : NW n W0 (rwd (4 * w + i)) (ρ 34 4) := ⟨_, _, hL1.2.2.2.2.1, lz.1 (by omega)⟩
              have hnew := BS_new n8 hb (by omega) hz (by omega) (by omega)
              refine t2 _ (fr_up (fr_up f (by simp [rgFin])) (by simp [rgFin])) (iCh_cg c (fun k => by rw [up_ne _ _ _ _ (by omega), up_ne _ _ _ _ (by omega)])) ⟨iSe_cg kk.1 (by rw [up_ne _ _ _ _ (by omega), up_ne _ _ _ _ (by omega)]) (fun k => by rw [up_ne _ _ _ _ (by omega), up_ne _ _ _ _ (by omega)]), by rw [up_ne _ _ _ _ (by omega), up_ne _ _ _ _ (by omega)]; exact kk.2.1, by rw [up_ne _ _ _ _ (by omega), up_ne _ _ _ _ (by omega)]; exact kk.2.2⟩ ?_ (by omega)
              rw [up_nk _ _ _ _ (by decide), up_same, up_same, ← Int.add_assoc]
              rw [show w * 4 + i = 4 * w + i by omega]
              exact hnew
        · refine ok_aload_n 29 rfl rfl rfl (ok_iload 30 rfl rfl rfl (ok_callVV (M' := M_Pe_takePart) (as := [_]) 31 rfl rfl ml_X7_63 (t_Pe_takePart (p := 34) (q := 39) (m := ρ 34 3) hp ⟨i1, by omega⟩ (by rw [hL1.1]; exact n8) hL1.2.1 rfl ⟨by omega, by omega⟩ (by rw [hL1.1]; exact hL1.2.2.2.1) c hk0.1 (by have := hk0.2; omega)) rfl rfl (Nat.le_of_ble_eq_true rfl) ⟨Nat.le_of_ble_eq_true rfl, Nat.le_of_ble_eq_true rfl⟩ rfl (Nat.le_of_ble_eq_true rfl) (fun τ u => ?_)))
          refine ok_inc5 32 rfl rfl rfl (by first | omega | (simp [up_if]; omega) | (simp [up_if] at *; omega)) (ok_goto 33 29 rfl rfl rfl ?_)
          have rj : rwd (4 * w + i) (3 + j.toNat) = i := by unfold rwd; rw [if_neg (by omega), if_neg (by omega), if_neg (by omega)]; omega
          have hL2 := LVL_tk n8 hm hL1 (by omega) rj (by omega) u
          have p4 : τ 34 4 = ρ 34 4 + 1 := by rw [u.2.2.2.2.2.1, wr_id ⟨by omega, by omega⟩]
          refine ih2 (j + 1) τ ⟨by omega, by omega, f.tr (u.1.mono (fun c k w => by simp only [rgPe, rgFin] at w ⊢; omega)), u.2.1, ⟨u.2.2.1.1, by have := u.2.2.1.2; have := hk0.2; omega, by have := u.2.2.1.2; have := hk0.2; omega⟩, by rw [show 3 + (j + 1).toNat = 3 + j.toNat + 1 by omega]; exact hL2, by omega, ?_⟩ (by omega)
          rw [u.1 t 7 (by simp only [rgPe]; omega), u.1 t 8 (by simp only [rgPe]; omega)]; exact hb
theorem t_Se_seek {σ : eS} {t : Nat} {n m : Int} {W0 : Int → Int → Int} (ht : tA t) (hT : iT σ t) (hC : iCh σ) (hS : iSe σ) (hS2 : σ 16 3 + 20000 < 2147483647) (en : σ t 1 = n) (hn : 1 ≤ n ∧ n ≤ 4) (em : σ t 3 = m) (hm : 1 ≤ m ∧ m ≤ 799999992) (eW : W0 = cT σ t) (he : EvW n W0 m) : MtV shA M_Se_seek [vr 25, vr t] σ (fun σ' => fr (rgSe t) σ σ' ∧ iCh σ' ∧ cSe σ σ' 20000 ∧ σ' t 6 = 1 ∧ BSx n W0 256 (σ' t 7) (σ' t 8)) := by
  refine Mt.of okM_Se_seek (Nat.le_of_ble_eq_true rfl) (fun hk hg => ?_)
  have nA := tA_10 ht
  have n8 : 1 ≤ n ∧ n ≤ 8 := ⟨hn.1, by omega⟩
  have hp : pP 30 35 := by unfold pP; omega
  have ns : ∀ (p : Nat) (x : Int) (ρ τ : eS), 31 ≤ p → p ≤ 33 → fr (rgNX p x) ρ τ → fr (rgSe t) ρ τ := fun p x ρ τ a b f => f.mono (fun c k w => by simp only [rgNX, rgSe] at w ⊢; omega)
  have rg3 : ∀ (i : Int) (k : Nat), k < 1 → rwd (64 * i) k = i % 4 := fun i k hk => by
    have : k = 0 := by omega
    subst this; unfold rwd; rw [if_pos rfl]; omega
  refine ok_aload_n 0 rfl rfl rfl (ok_bipush 1 rfl rfl (by decide) (by decide) (ok_putI 2 rfl rfl fl_X7_34 (sT ht) rfl rfl rfl (ok_aload_n 3 rfl rfl rfl (ok_getR 4 rfl rfl fl_X7_13 rfl rfl (ok_iconst 5 rfl rfl (by decide) (ok_aald 6 30 rfl rfl rfl (Or.inr rfl) (by omega) rfl (ok_aload_n 7 rfl rfl rfl (ok_callVV (M' := M_Pe_startTable) (as := [_]) 8 rfl rfl ml_X7_40 (t_Pe_startTable hp ht) rfl rfl (Nat.le_of_ble_eq_true rfl) ⟨Nat.le_of_ble_eq_true rfl, Nat.le_of_ble_eq_true rfl⟩ rfl (Nat.le_of_ble_eq_true rfl) (fun τ g => ?_)))))))))
  refine ok_iconst 9 rfl rfl (by decide) (ok_ist2 10 rfl rfl rfl ?_)
  obtain ⟨g1, g2, g3, g4, g5⟩ := g
  rw [up_nk _ _ _ _ (by decide)] at g2 g3
  have g6 : ∀ k, 0 ≤ k → k < 64 → τ 35 k = σ (t + 4) k := fun k a b => by rw [g5 k a b, up_ne _ _ _ _ (by omega)]
  have aW : ag n (pk τ 35) W0 := fun i j a b c d => by rw [eW]; exact g6 _ (by omega) (by omega)
  have hb0 : bd64 τ 35 := fun k a b => by have := hT.2.2.2 k a b; rw [g6 k a b]; omega
  have e16 : τ 16 3 = σ 16 3 := by rw [g1 16 3 (by simp only [rgP0]; omega), up_ne _ _ _ _ (by omega)]
  have e19 : ∀ k, τ 19 k = σ 19 k := fun k => by rw [g1 19 k (by simp only [rgP0]; omega), up_ne _ _ _ _ (by omega)]
  have hC0 : iCh τ := iCh_cg hC (fun k => by rw [g1 17 k (by simp only [rgP0]; omega), up_ne _ _ _ _ (by omega)])
  have hnp := np2_bd (n := n) ⟨by omega, n8.2⟩ (pk τ 35)
  have hL0 : ∀ rs, LVL n m W0 rs 0 30 35 τ := fun rs => ⟨by rw [g2, en], hb0, by omega, by rw [g3, em]; exact EvW_cg he (fun a b x y z w => aW a b x y z w), ⟨aW, g4⟩, by omega⟩
  have F1 : fr (rgSe t) σ τ := (fr_up fr.rf (by simp [rgSe])).tr (g1.mono (fun c k w => by simp only [rgP0, rgSe] at w ⊢; omega))
  have b0 : BSx n W0 (64 * 0) (τ t 7) (τ t 8) := Or.inl ⟨by decide, by rw [g1 t 7 (by simp only [rgP0]; omega), up_same]⟩
  refine lpO2 (fun (i : Int) (_ : eS) => [some (vr 25), some (vr t), some (vi i), none, none]) (fun _ ρ => ρ) (fun i ρ => 0 ≤ i ∧ i ≤ 4 ∧ fr (rgSe t) σ ρ ∧ iCh ρ ∧ cSe σ ρ (4117 * i) ∧ (∀ rs, LVL n m W0 rs 0 30 35 ρ) ∧ BSx n W0 (64 * i) (ρ t 7) (ρ t 8) ∧ ∀ x, 0 ≤ x → x < i → NMp n W0 (ρ 27 x) x) (fun i _ => (4 - i).toNat) ?_ 0 τ ⟨by omega, by omega, F1, hC0, ⟨iSe_cg hS e16 e19, by omega, by omega⟩, hL0, b0, fun x a b => by omega⟩
  clear b0 F1 hL0 hnp hC0 e19 e16 hb0 aW g1 g2 g3 g4 g5 g6 τ
  rintro i ρ ⟨i1, i2, f, c, hk0, hL, hb, hN⟩ ih
  refine ok_iload_n 11 rfl rfl rfl (ok_iconst 12 rfl rfl (by decide) (ok_icmp_ge 13 106 rfl rfl rfl (fun h20 => ?_) (fun h20 => ?_)))
  · refine ok_aload_n 59 rfl rfl rfl (ok_iconst 60 rfl rfl (by decide) (ok_putZ 61 rfl rfl fl_X7_52 (sT ht) rfl rfl rfl (by first | omega | (simp [up_if]; omega) | (simp [up_if] at *; omega)) (ok_vret 62 rfl rfl rfl ?_)))
    refine ⟨rfl, fr_up f (by simp [rgSe]), iCh_cg c (fun k => up_ne _ _ _ _ (by omega)), ⟨iSe_cg hk0.1 (up_ne _ _ _ _ (by omega)) (fun k => up_ne _ _ _ _ (by omega)), by rw [up_ne _ _ _ _ (by omega)]; exact hk0.2.1, by rw [up_ne _ _ _ _ (by omega)]; have := hk0.2.2; omega⟩, by rw [up_same], ?_⟩
    rw [up_nk _ _ _ _ (by decide), up_nk _ _ _ _ (by decide), show (256 : Int) = 64 * i by omega]
    exact hb
  · refine ok_aload_n 14 rfl rfl rfl (ok_iconst 15 rfl rfl (by decide) (ok_iload_n 16 rfl rfl rfl (ok_callVI (M' := M_Se_isNewStep) (as := [_, _]) 17 rfl rfl ml_X7_44 (t_Se_isNewStep (l := 0) (r := i) (rs := rwd (64 * i)) ⟨by decide, by decide⟩ ⟨by omega, by omega⟩ hn hm.2 c hk0.1 (by have := hk0.2; omega) (by show rwd (64 * i) 0 = i; rw [rg3 i 0 (by decide)]; omega) (hL _)) rfl rfl (Nat.le_of_ble_eq_true rfl) ⟨Nat.le_of_ble_eq_true rfl, Nat.le_of_ble_eq_true rfl⟩ rfl (Nat.le_of_ble_eq_true rfl) (fun τ z g => ?_))))
    obtain ⟨g1, g2, g3, g4, g5, g6⟩ := g
    replace g1 : fr (rgNX 31 i) ρ τ := by have := g1; rw [show (0 : Int) * 4 + i = i by omega] at this; exact this
    replace g5 : NMp n (pk ρ 35) (τ 27 i) i := by have := g5; rw [show (0 : Int) * 4 + i = i by omega] at this; exact this
    replace g4 : LVL n m W0 (rwd (64 * i)) 1 31 36 τ := g4
    have hR0 := (hL (rwd (64 * i))).2.2.2.2.1
    have aW := hR0.1
    replace g5 := NMp_ag aW g5
    have f' := f.tr (ns 31 i _ _ (by omega) (by omega) g1)
    have hk1 : cSe σ τ (4117 * i + 1) := ⟨g3.1, by have := g3.2; have := hk0.2; omega, by have := g3.2; have := hk0.2; omega⟩
    have hL' : ∀ rs, LVL n m W0 rs 0 30 35 τ := fun rs => LVL_cp n8 (hL rs) (g1 30 2 (by simp only [rgNX]; omega)) (g1 30 3 (by simp only [rgNX]; omega)) (g1 30 4 (by simp only [rgNX]; omega)) (fun k _ _ => g1 35 k (by simp only [rgNX]; omega))
    have e7 : τ t 7 = ρ t 7 := g1 t 7 (by simp only [rgNX]; omega)
    have e8 : τ t 8 = ρ t 8 := g1 t 8 (by simp only [rgNX]; omega)
    rw [← e7, ← e8] at hb
    have hN' : ∀ x, 0 ≤ x → x < i + 1 → NMp n W0 (τ 27 x) x := fun x a b => by
      by_cases q : x = i
      · rw [q]; exact g5
      · rw [g1 27 x (by simp only [rgNX]; omega)]; exact hN x a (by omega)
    refine ok_if_ne 18 35 rfl rfl rfl (fun h29 => ?_) (fun h29 => ?_)
    · refine ok_iconst 20 rfl rfl (by decide) (ok_ist3 21 rfl rfl rfl ?_)
      have il : i < 4 := by omega
      refine lpO2 (fun (j : Int) (_ : eS) => [some (vr 25), some (vr t), some (vi i), some (vi j), none]) (fun _ ρ => ρ) (fun j ρ => 0 ≤ j ∧ j ≤ 4 ∧ fr (rgSe t) σ ρ ∧ iCh ρ ∧ cSe σ ρ (4117 * i + 1 + 1029 * j) ∧ (∀ rs, LVL n m W0 rs 0 30 35 ρ) ∧ LVL n m W0 (rwd (64 * i)) 1 31 36 ρ ∧ BSx n W0 (64 * i + 16 * j) (ρ t 7) (ρ t 8) ∧ (∀ x, 0 ≤ x → x < i + 1 → NMp n W0 (ρ 27 x) x) ∧ ∀ x, 0 ≤ x → x < j → NMp n (pk ρ 36) (ρ 27 (4 + x)) x) (fun j _ => (4 - j).toNat) ?_ 0 τ ⟨by omega, by omega, f', g2, ⟨hk1.1, hk1.2.1, by have := hk1.2.2; omega⟩, hL', g4, by rw [show 64 * i + 16 * 0 = 64 * i by omega]; exact hb, hN', fun x a b => by omega⟩
      clear hN' e7 e8 hL' hk1 f' g5 aW hR0 g4 g1 g2 g3 g6 h29 z τ hN hb hL hk0 c f ρ
      rintro j ρ ⟨j1, j2, f, c, hk1, hL, hL1, hb, hN, hM⟩ ih2
      have rj : ∀ k, k < 1 → rwd (64 * i) k = rwd (64 * i + 16 * j) k ∨ 4 ≤ j := fun k hk => by
        have : k = 0 := by omega
        subst this; unfold rwd; rw [if_pos rfl, if_pos rfl]; omega
      refine ok_iload_n 22 rfl rfl rfl (ok_iconst 23 rfl rfl (by decide) (ok_icmp_ge 24 100 rfl rfl rfl (fun h39 => ?_) (fun h39 => ?_)))
      · refine ok_inc2 57 rfl rfl rfl (by first | omega | (simp [up_if]; omega) | (simp [up_if] at *; omega)) (ok_goto 58 18 rfl rfl rfl ?_)
        exact ok_fg [some (vr 25), some (vr t), some (vi (i + 1)), none, none] ⟨rfl, rfl, rfl, trivial⟩ (ih (i + 1) ρ ⟨by omega, by omega, f, c, ⟨hk1.1, hk1.2.1, by have := hk1.2.2; omega⟩, hL, by rw [show 64 * (i + 1) = 64 * i + 16 * j by omega]; exact hb, hN⟩ (by omega))
      · have hL2 : LVL n m W0 (rwd (64 * i + 16 * j)) 1 31 36 ρ := LVL_rs hL1 (fun k hk => by rcases rj k hk with q | q; exact q; omega)
        refine ok_aload_n 25 rfl rfl rfl (ok_iconst 26 rfl rfl (by decide) (ok_iload_n 27 rfl rfl rfl (ok_callVI (M' := M_Se_isNewStep) (as := [_, _]) 28 rfl rfl ml_X7_44 (t_Se_isNewStep (l := 1) (r := j) (rs := rwd (64 * i + 16 * j)) ⟨by decide, by decide⟩ ⟨by omega, by omega⟩ hn hm.2 c hk1.1 (by have := hk1.2; omega) (by show rwd (64 * i + 16 * j) 1 = j; unfold rwd; rw [if_neg (by decide), if_pos rfl]; omega) hL2) rfl rfl (Nat.le_of_ble_eq_true rfl) ⟨Nat.le_of_ble_eq_true rfl, Nat.le_of_ble_eq_true rfl⟩ rfl (Nat.le_of_ble_eq_true rfl) (fun τ z g => ?_))))
        obtain ⟨g1, g2, g3, g4, g5, g6⟩ := g
        replace g1 : fr (rgNX 32 (4 + j)) ρ τ := by have := g1; rw [show (1 : Int) * 4 + j = 4 + j by omega] at this; exact this
        replace g5 : NMp n (pk ρ 36) (τ 27 (4 + j)) j := by have := g5; rw [show (1 : Int) * 4 + j = 4 + j by omega] at this; exact this
        replace g4 : LVL n m W0 (rwd (64 * i + 16 * j)) 2 32 37 τ := g4
        have hR1 := hL2.2.2.2.2.1
        have f' := f.tr (ns 32 (4 + j) _ _ (by omega) (by omega) g1)
        have hk2 : cSe σ τ (4117 * i + 1 + 1029 * j + 1) := ⟨g3.1, by have := g3.2; have := hk1.2; omega, by have := g3.2; have := hk1.2; omega⟩
        have hL' : ∀ rs, LVL n m W0 rs 0 30 35 τ := fun rs => LVL_cp n8 (hL rs) (g1 30 2 (by simp only [rgNX]; omega)) (g1 30 3 (by simp only [rgNX]; omega)) (g1 30 4 (by simp only [rgNX]; omega)) (fun k _ _ => g1 35 k (by simp only [rgNX]; omega))
        have hL1' : LVL n m W0 (rwd (64 * i)) 1 31 36 τ := LVL_cp n8 hL1 (g1 31 2 (by simp only [rgNX]; omega)) (g1 31 3 (by simp only [rgNX]; omega)) (g1 31 4 (by simp only [rgNX]; omega)) (fun k _ _ => g1 36 k (by simp only [rgNX]; omega))
        have p36 : pk τ 36 = pk ρ 36 := by funext a b; exact g1 36 _ (by simp only [rgNX]; omega)
        have e7 : τ t 7 = ρ t 7 := g1 t 7 (by simp only [rgNX]; omega)
        have e8 : τ t 8 = ρ t 8 := g1 t 8 (by simp only [rgNX]; omega)
        rw [← e7, ← e8] at hb
        have hN' : ∀ x, 0 ≤ x → x < i + 1 → NMp n W0 (τ 27 x) x := fun x a b => by rw [g1 27 x (by simp only [rgNX]; omega)]; exact hN x a b
        have hM' : ∀ x, 0 ≤ x → x < j + 1 → NMp n (pk τ 36) (τ 27 (4 + x)) x := fun x a b => by
          rw [p36]
          by_cases q : x = j
          · rw [q]; exact g5
          · rw [g1 27 (4 + x) (by simp only [rgNX]; omega)]; exact hM x a (by omega)
        refine ok_if_ne 29 54 rfl rfl rfl (fun h48 => ?_) (fun h48 => ?_)
        · refine ok_iconst 31 rfl rfl (by decide) (ok_ist4 32 rfl rfl rfl ?_)
          have jl : j < 4 := by omega
          refine lpO2 (fun (l : Int) (_ : eS) => [some (vr 25), some (vr t), some (vi i), some (vi j), some (vi l)]) (fun _ ρ => ρ) (fun l ρ => 0 ≤ l ∧ l ≤ 4 ∧ fr (rgSe t) σ ρ ∧ iCh ρ ∧ cSe σ ρ (4117 * i + 1 + 1029 * j + 1 + 257 * l) ∧ (∀ rs, LVL n m W0 rs 0 30 35 ρ) ∧ LVL n m W0 (rwd (64 * i)) 1 31 36 ρ ∧ LVL n m W0 (rwd (64 * i + 16 * j)) 2 32 37 ρ ∧ BSx n W0 (64 * i + 16 * j + 4 * l) (ρ t 7) (ρ t 8) ∧ (∀ x, 0 ≤ x → x < i + 1 → NMp n W0 (ρ 27 x) x) ∧ (∀ x, 0 ≤ x → x < j + 1 → NMp n (pk ρ 36) (ρ 27 (4 + x)) x) ∧ ∀ x, 0 ≤ x → x < l → NMp n (pk ρ 37) (ρ 27 (8 + x)) x) (fun l _ => (4 - l).toNat) ?_ 0 τ ⟨by omega, by omega, f', g2, ⟨hk2.1, hk2.2.1, by have := hk2.2.2; omega⟩, hL', hL1', g4, by rw [show 64 * i + 16 * j + 4 * 0 = 64 * i + 16 * j by omega]; exact hb, hN', hM', fun x a b => by omega⟩
          clear hM' hN' e7 e8 p36 hL1' hL' hk2 f' hR1 hL2 g5 g4 g1 g2 g3 g6 h48 z τ hM hN hb hL1 hL hk1 c f rj ρ
          rintro l ρ ⟨l1, l2, f, c, hk2, hL, hL1, hL2, hb, hN, hM, hO⟩ ih3
          refine ok_iload 33 rfl rfl rfl (ok_iconst 34 rfl rfl (by decide) (ok_icmp_ge 35 94 rfl rfl rfl (fun h60 => ?_) (fun h60 => ?_)))
          · refine ok_inc3 55 rfl rfl rfl (by first | omega | (simp [up_if]; omega) | (simp [up_if] at *; omega)) (ok_goto 56 37 rfl rfl rfl ?_)
            exact ok_fg [some (vr 25), some (vr t), some (vi i), some (vi (j + 1)), none] ⟨rfl, rfl, rfl, rfl, trivial⟩ (ih2 (j + 1) ρ ⟨by omega, by omega, f, c, ⟨hk2.1, hk2.2.1, by have := hk2.2.2; omega⟩, hL, hL1, by rw [show 64 * i + 16 * (j + 1) = 64 * i + 16 * j + 4 * l by omega]; exact hb, hN, hM⟩ (by omega))
          · have hL3 : LVL n m W0 (rwd (64 * i + 16 * j + 4 * l)) 2 32 37 ρ := LVL_rs hL2 (fun k hk => by
              unfold rwd
              rcases (by omega : k = 0 ∨ k = 1) with q | q
              · rw [if_pos q, if_pos q]; omega
              · rw [if_neg (by omega), if_pos q, if_neg (by omega), if_pos q]; omega)
            refine ok_aload_n 36 rfl rfl rfl (ok_iconst 37 rfl rfl (by decide) (ok_iload 38 rfl rfl rfl (ok_callVI (M' := M_Se_isNewStep) (as := [_, _]) 39 rfl rfl ml_X7_44 (t_Se_isNewStep (l := 2) (r := l) (rs := rwd (64 * i + 16 * j + 4 * l)) ⟨by decide, by decide⟩ ⟨by omega, by omega⟩ hn hm.2 c hk2.1 (by have := hk2.2; omega) (by show rwd (64 * i + 16 * j + 4 * l) 2 = l; unfold rwd; rw [if_neg (by decide), if_neg (by decide), if_pos rfl]; omega) hL3) rfl rfl (Nat.le_of_ble_eq_true rfl) ⟨Nat.le_of_ble_eq_true rfl, Nat.le_of_ble_eq_true rfl⟩ rfl (Nat.le_of_ble_eq_true rfl) (fun τ z g => ?_))))
            obtain ⟨g1, g2, g3, g4, g5, g6⟩ := g
            replace g1 : fr (rgNX 33 (8 + l)) ρ τ := by have := g1; rw [show (2 : Int) * 4 + l = 8 + l by omega] at this; exact this
            replace g5 : NMp n (pk ρ 37) (τ 27 (8 + l)) l := by have := g5; rw [show (2 : Int) * 4 + l = 8 + l by omega] at this; exact this
            replace g4 : LVL n m W0 (rwd (64 * i + 16 * j + 4 * l)) 3 33 38 τ := g4
            have hR2 := hL3.2.2.2.2.1
            have f' := f.tr (ns 33 (8 + l) _ _ (by omega) (by omega) g1)
            have hk3 : cSe σ τ (4117 * i + 1 + 1029 * j + 1 + 257 * l + 1) := ⟨g3.1, by have := g3.2; have := hk2.2; omega, by have := g3.2; have := hk2.2; omega⟩
            have hL' : ∀ rs, LVL n m W0 rs 0 30 35 τ := fun rs => LVL_cp n8 (hL rs) (g1 30 2 (by simp only [rgNX]; omega)) (g1 30 3 (by simp only [rgNX]; omega)) (g1 30 4 (by simp only [rgNX]; omega)) (fun k _ _ => g1 35 k (by simp only [rgNX]; omega))
            have hL1' : LVL n m W0 (rwd (64 * i)) 1 31 36 τ := LVL_cp n8 hL1 (g1 31 2 (by simp only [rgNX]; omega)) (g1 31 3 (by simp only [rgNX]; omega)) (g1 31 4 (by simp only [rgNX]; omega)) (fun k _ _ => g1 36 k (by simp only [rgNX]; omega))
            have hL2' : LVL n m W0 (rwd (64 * i + 16 * j)) 2 32 37 τ := LVL_cp n8 hL2 (g1 32 2 (by simp only [rgNX]; omega)) (g1 32 3 (by simp only [rgNX]; omega)) (g1 32 4 (by simp only [rgNX]; omega)) (fun k _ _ => g1 37 k (by simp only [rgNX]; omega))
            have p36 : pk τ 36 = pk ρ 36 := by funext a b; exact g1 36 _ (by simp only [rgNX]; omega)
            have p37 : pk τ 37 = pk ρ 37 := by funext a b; exact g1 37 _ (by simp only [rgNX]; omega)
            have e7 : τ t 7 = ρ t 7 := g1 t 7 (by simp only [rgNX]; omega)
            have e8 : τ t 8 = ρ t 8 := g1 t 8 (by simp only [rgNX]; omega)
            rw [← e7, ← e8] at hb
            have hN' : ∀ x, 0 ≤ x → x < i + 1 → NMp n W0 (τ 27 x) x := fun x a b => by rw [g1 27 x (by simp only [rgNX]; omega)]; exact hN x a b
            have hM' : ∀ x, 0 ≤ x → x < j + 1 → NMp n (pk τ 36) (τ 27 (4 + x)) x := fun x a b => by rw [p36, g1 27 (4 + x) (by simp only [rgNX]; omega)]; exact hM x a b
            have hO' : ∀ x, 0 ≤ x → x < l + 1 → NMp n (pk τ 37) (τ 27 (8 + x)) x := fun x a b => by
              rw [p37]
              by_cases q : x = l
              · rw [q]; exact g5
              · rw [g1 27 (8 + x) (by simp only [rgNX]; omega)]; exact hO x a (by omega)
            refine ok_if_eq 40 88 rfl rfl rfl (fun h70 => ?_) (fun h70 => ?_)
            · refine ok_inc4 53 rfl rfl rfl (by first | omega | (simp [up_if]; omega) | (simp [up_if] at *; omega)) (ok_goto 54 57 rfl rfl rfl ?_)
              have hx : ∃ x, 0 ≤ x ∧ x < l ∧ ρ 27 (8 + x) = τ 27 (8 + l) := by
                rcases g6 with q | ⟨-, x, x1, x2, x3⟩
                · omega
                · refine ⟨x, x1, x2, ?_⟩
                  rw [show (2 : Int) * 4 + x = 8 + x by omega, show (2 : Int) * 4 + l = 8 + l by omega] at x3
                  exact x3
              obtain ⟨x, x1, x2, x3⟩ := hx
              have nx := hO x x1 x2
              rw [x3] at nx
              have hb2 : BSx n W0 (64 * i + 16 * j + 4 * (l + 1)) (τ t 7) (τ t 8) := BS_same (d := 4 * (l - x)) (v := τ 27 (8 + l)) (l := 2) n8 hb (by omega) (by omega) hR2 (fun w _ _ k hk => by
                unfold rwd
                rcases (by omega : k = 0 ∨ k = 1) with q | q
                · rw [if_pos q, if_pos q]; omega
                · rw [if_neg (by omega), if_pos q, if_neg (by omega), if_pos q]; omega) (fun w a b k hk => by
                unfold rwd
                rcases (by omega : k = 0 ∨ k = 1 ∨ 3 ≤ k) with q | q | q
                · rw [if_pos q, if_pos q]; omega
                · rw [if_neg (by omega), if_pos q, if_neg (by omega), if_pos q]; omega
                · rw [if_neg (by omega), if_neg (by omega), if_neg (by omega), if_neg (by omega), if_neg (by omega), if_neg (by omega)]; omega) (fun w a b => ⟨by rw [show rwd w 2 = l by unfold rwd; rw [if_neg (by decide), if_neg (by decide), if_pos rfl]; omega]; exact g5, by rw [show rwd (w - 4 * (l - x)) 2 = x by unfold rwd; rw [if_neg (by decide), if_neg (by decide), if_pos rfl]; omega]; exact nx⟩) (by omega)
              exact ih3 (l + 1) τ ⟨by omega, by omega, f', g2, ⟨hk3.1, hk3.2.1, by have := hk3.2.2; omega⟩, hL', hL1', hL2', hb2, hN', hM', hO'⟩ (by omega)
            · refine ok_aload_n 41 rfl rfl rfl (ok_aload_n 42 rfl rfl rfl (ok_iload_n 43 rfl rfl rfl (ok_iconst 44 rfl rfl (by decide) (ok_imul 45 rfl rfl (by first | omega | (simp [up_if]; omega) | (simp [up_if] at *; omega)) (ok_iload_n 46 rfl rfl rfl (ok_iadd 47 rfl rfl (by first | omega | (simp [up_if]; omega) | (simp [up_if] at *; omega)) (ok_iconst 48 rfl rfl (by decide) (ok_imul 49 rfl rfl (by first | omega | (simp [up_if]; omega) | (simp [up_if] at *; omega)) (ok_iload 50 rfl rfl rfl (ok_iadd 51 rfl rfl (by first | omega | (simp [up_if]; omega) | (simp [up_if] at *; omega)) (ok_callVV (M' := M_Se_finish) (as := [_, _]) 52 rfl rfl ml_X7_48 (t_Se_finish (w := (i * 4 + j) * 4 + l) (n := n) (m := m) (W0 := W0) ht hn hm.2 ⟨by omega, by omega⟩ g2 hk3.1 (by have := hk3.2; omega) (by rw [show 4 * ((i * 4 + j) * 4 + l) = 64 * i + 16 * j + 4 * l by omega]; exact g4) (by rw [show 4 * ((i * 4 + j) * 4 + l) = 64 * i + 16 * j + 4 * l by omega]; exact hb)) rfl rfl (Nat.le_of_ble_eq_true rfl) ⟨Nat.le_of_ble_eq_true rfl, Nat.le_of_ble_eq_true rfl⟩ rfl (Nat.le_of_ble_eq_true rfl) (fun υ u => ?_))))))))))))
              refine ok_inc4 53 rfl rfl rfl (by first | omega | (simp [up_if]; omega) | (simp [up_if] at *; omega)) (ok_goto 54 57 rfl rfl rfl ?_)
              obtain ⟨u1, u2, u3, u4⟩ := u
              rw [show 4 * ((i * 4 + j) * 4 + l) + 4 = 64 * i + 16 * j + 4 * (l + 1) by omega] at u4
              have q36 : pk υ 36 = pk τ 36 := by funext a b; exact u1 36 _ (by simp only [rgFin]; omega)
              have q37 : pk υ 37 = pk τ 37 := by funext a b; exact u1 37 _ (by simp only [rgFin]; omega)
              have q27 : ∀ x, υ 27 x = τ 27 x := fun x => u1 27 x (by simp only [rgFin]; omega)
              exact ih3 (l + 1) υ ⟨by omega, by omega, f'.tr (u1.mono (fun c k w => by simp only [rgFin, rgSe] at w ⊢; omega)), u2, ⟨u3.1, by have := u3.2; have := hk3.2; omega, by have := u3.2; have := hk3.2; omega⟩, fun rs => LVL_cp n8 (hL' rs) (u1 30 2 (by simp only [rgFin]; omega)) (u1 30 3 (by simp only [rgFin]; omega)) (u1 30 4 (by simp only [rgFin]; omega)) (fun k _ _ => u1 35 k (by simp only [rgFin]; omega)), LVL_cp n8 hL1' (u1 31 2 (by simp only [rgFin]; omega)) (u1 31 3 (by simp only [rgFin]; omega)) (u1 31 4 (by simp only [rgFin]; omega)) (fun k _ _ => u1 36 k (by simp only [rgFin]; omega)), LVL_cp n8 hL2' (u1 32 2 (by simp only [rgFin]; omega)) (u1 32 3 (by simp only [rgFin]; omega)) (u1 32 4 (by simp only [rgFin]; omega)) (fun k _ _ => u1 37 k (by simp only [rgFin]; omega)), u4, fun x a b => by rw [q27]; exact hN' x a b, fun x a b => by rw [q36, q27]; exact hM' x a b, fun x a b => by rw [q37, q27]; exact hO' x a b⟩ (by omega)
        · refine ok_goto 30 94 rfl rfl rfl (ok_inc3 55 rfl rfl rfl (by first | omega | (simp [up_if]; omega) | (simp [up_if] at *; omega)) (ok_goto 56 37 rfl rfl rfl ?_))
          have hx : ∃ x, 0 ≤ x ∧ x < j ∧ ρ 27 (4 + x) = τ 27 (4 + j) := by
            rcases g6 with q | ⟨-, x, x1, x2, x3⟩
            · omega
            · refine ⟨x, x1, x2, ?_⟩
              rw [show (1 : Int) * 4 + x = 4 + x by omega, show (1 : Int) * 4 + j = 4 + j by omega] at x3
              exact x3
          obtain ⟨x, x1, x2, x3⟩ := hx
          have nx := hM x x1 x2
          rw [x3] at nx
          have hb2 : BSx n W0 (64 * i + 16 * (j + 1)) (τ t 7) (τ t 8) := BS_same (d := 16 * (j - x)) (v := τ 27 (4 + j)) (l := 1) n8 hb (by omega) (by omega) hR1 (fun w _ _ k hk => by
            have : k = 0 := by omega
            subst this; unfold rwd; rw [if_pos rfl, if_pos rfl]; omega) (fun w a b k hk => by unfold rwd; rcases (by omega : k = 0 ∨ k = 2 ∨ 3 ≤ k) with q | q | q; rw [if_pos q, if_pos q]; omega; rw [if_neg (by omega), if_neg hk, if_pos q, if_neg (by omega), if_neg hk, if_pos q]; omega; rw [if_neg (by omega), if_neg (by omega), if_neg (by omega), if_neg (by omega), if_neg (by omega), if_neg (by omega)]; omega) (fun w a b => ⟨by rw [show rwd w 1 = j by unfold rwd; rw [if_neg (by decide), if_pos rfl]; omega]; exact g5, by rw [show rwd (w - 16 * (j - x)) 1 = x by unfold rwd; rw [if_neg (by decide), if_pos rfl]; omega]; exact nx⟩) (by omega)
          exact ih2 (j + 1) τ ⟨by omega, by omega, f', g2, ⟨hk2.1, hk2.2.1, by have := hk2.2.2; omega⟩, hL', hL1', hb2, hN', hM'⟩ (by omega)
    · refine ok_goto 19 100 rfl rfl rfl (ok_inc2 57 rfl rfl rfl (by first | omega | (simp [up_if]; omega) | (simp [up_if] at *; omega)) (ok_goto 58 18 rfl rfl rfl ?_))
      have hx : ∃ x, 0 ≤ x ∧ x < i ∧ ρ 27 x = τ 27 i := by
        rcases g6 with q | ⟨-, x, x1, x2, x3⟩
        · omega
        · refine ⟨x, x1, x2, ?_⟩
          rw [show (0 : Int) * 4 + x = x by omega, show (0 : Int) * 4 + i = i by omega] at x3
          exact x3
      obtain ⟨x, x1, x2, x3⟩ := hx
      have nx := hN x x1 x2
      rw [x3] at nx
      have hb2 : BSx n W0 (64 * (i + 1)) (τ t 7) (τ t 8) := BS_same (d := 64 * (i - x)) (v := τ 27 i) (l := 0) n8 hb (by omega) (by omega) hR0 (fun w _ _ k hk => by omega) (fun w a b k hk => by unfold rwd; rw [if_neg hk, if_neg hk]; rcases (by omega : k = 1 ∨ k = 2 ∨ 3 ≤ k) with q | q | q; rw [if_pos q, if_pos q]; omega; rw [if_neg (by omega), if_pos q, if_neg (by omega), if_pos q]; omega; rw [if_neg (by omega), if_neg (by omega), if_neg (by omega), if_neg (by omega)]; omega) (fun w a b => ⟨by rw [show rwd w 0 = i by unfold rwd; rw [if_pos rfl]; omega]; exact NMp_ag aW.sy g5, by rw [show rwd (w - 64 * (i - x)) 0 = x by unfold rwd; rw [if_pos rfl]; omega]; exact NMp_ag aW.sy nx⟩) (by omega)
      exact ih (i + 1) τ ⟨by omega, by omega, f', g2, ⟨hk1.1, hk1.2.1, by have := hk1.2.2; omega⟩, hL', hb2, hN'⟩ (by omega)
end
