section
/-! MIXING: powers of the joins, on both sides -/
def pwR (n : Int) (W : Int → Int → Int) : Nat → Int → Int → Prop
  | 0 => fun i j => 1 ≤ W i j
  | m + 1 => fun i j => ∃ k, 0 ≤ k ∧ k < n ∧ pwR n W m i k ∧ 1 ≤ W k j
def fuR (n : Int) (op : Int → Int → Prop) : Prop := ∀ i j, 0 ≤ i → i < n → 0 ≤ j → j < n → op i j
def mxG (n : Int) (W : Int → Int → Int) (z : Int) : Prop := (z = -1 ∧ ∀ m : Int, 1 ≤ m → m ≤ 64 → ¬ fuR n (pwR n W (m - 1).toNat)) ∨ ((1 ≤ z ∧ z ≤ 64) ∧ fuR n (pwR n W (z - 1).toNat) ∧ ∀ m : Int, 1 ≤ m → m < z → ¬ fuR n (pwR n W (m - 1).toNat))
theorem pwR_cg {n : Int} {W V : Int → Int → Int} (h : ag n W V) : ∀ (m : Nat) (i j : Int), 0 ≤ i → i < n → 0 ≤ j → j < n → (pwR n W m i j ↔ pwR n V m i j)
  | 0, i, j, a, b, c, d => by show 1 ≤ W i j ↔ 1 ≤ V i j; rw [h i j a b c d]
  | m + 1, i, j, a, b, c, d => by
    constructor
    · rintro ⟨k, x, y, z, w⟩; exact ⟨k, x, y, (pwR_cg h m i k a b x y).mp z, by rw [← h k j x y c d]; exact w⟩
    · rintro ⟨k, x, y, z, w⟩; exact ⟨k, x, y, (pwR_cg h m i k a b x y).mpr z, by rw [h k j x y c d]; exact w⟩
theorem fuR_cg {n : Int} {W V : Int → Int → Int} (h : ag n W V) (m : Nat) : fuR n (pwR n W m) ↔ fuR n (pwR n V m) :=
  ⟨fun q i j a b c d => (pwR_cg h m i j a b c d).mp (q i j a b c d), fun q i j a b c d => (pwR_cg h m i j a b c d).mpr (q i j a b c d)⟩
theorem mxG_un {n z z' : Int} {W V : Int → Int → Int} (h : ag n W V) (a : mxG n W z) (b : mxG n V z') : z = z' := by
  rcases a with ⟨a1, a2⟩ | ⟨a1, a2, a3⟩ <;> rcases b with ⟨b1, b2⟩ | ⟨b1, b2, b3⟩
  · omega
  · exact absurd ((fuR_cg h _).mpr b2) (a2 z' b1.1 b1.2)
  · exact absurd ((fuR_cg h _).mp a2) (b2 z a1.1 a1.2)
  · rcases (by omega : z < z' ∨ z = z' ∨ z' < z) with q | q | q
    · exact absurd ((fuR_cg h _).mp a2) (b3 z a1.1 q)
    · exact q
    · exact absurd ((fuR_cg h _).mpr b2) (a3 z' b1.1 q)
theorem lb_small {z : Int} (h : 0 ≤ z ∧ z < 256) (k : Nat) : lb z k = z.toNat.testBit k := by
  by_cases q : k < 64
  · show (BitVec.ofInt 64 z).getLsbD k = _
    rw [← BitVec.testBit_toNat, BitVec.toNat_ofInt]
    have : (z % ((2 ^ 64 : Nat) : Int)).toNat = z.toNat := by omega
    rw [this]
  · rw [lb_big (by omega), Nat.testBit_lt_two_pow (Nat.lt_of_lt_of_le (by omega : z.toNat < 2 ^ 8) (Nat.pow_le_pow_right (by decide) (by omega)))]
theorem jb_put {v z r x y : Int} (hz : 0 ≤ z ∧ z < 256) (hr : 0 ≤ r ∧ r < 8) (hx : 0 ≤ x ∧ x < 8) (hy : 0 ≤ y ∧ y < 8) : jb (lor v (lshl z (r * 8))) x y = (jb v x y || (decide (x = r) && bt z y)) := by
  unfold jb
  rw [lb_or]
  congr 1
  obtain ⟨m, hm⟩ : ∃ m : Nat, r * 8 = (m : Int) := ⟨(r * 8).toNat, by omega⟩
  rw [hm, lb_shl z (by omega) (by omega), lb_small hz]
  by_cases q : x = r
  · rw [decide_eq_true q, decide_eq_true (by omega), show (x * 8 + y).toNat - m = y.toNat by omega]
    rfl
  · rw [decide_eq_false q, Bool.false_and]
    by_cases w : m ≤ (x * 8 + y).toNat
    · rw [Nat.testBit_lt_two_pow (Nat.lt_of_lt_of_le (by omega : z.toNat < 2 ^ 8) (Nat.pow_le_pow_right (by decide) (by omega))), Bool.and_false]
    · rw [decide_eq_false w, Bool.false_and]
theorem t_Jo_product {σ : eS} {P J n : Int} {op op' : Int → Int → Prop} (hn : 0 ≤ n ∧ n ≤ 8) (hP : jOf P n op) (hJ : jOf J n op') : MtL shA M_Jo_product [vl P, vl J, vi n] σ (fun σ' z => σ' = σ ∧ jOf z n (fun i j => ∃ k, 0 ≤ k ∧ k < n ∧ op i k ∧ op' k j)) := by
  refine Mt.of okM_Jo_product (Nat.le_of_ble_eq_true rfl) (fun hk hg => ?_)
  refine ok_lconst (w := 0) 0 rfl rfl rfl (by decide) (ok_lst5 1 rfl rfl rfl (ok_iconst 2 rfl rfl (by decide) (ok_ist7 3 rfl rfl rfl ?_)))
  refine lpO2 (fun v i : Int => [some (vl P), none, some (vl J), none, some (vi n), some (vl v), none, some (vi i)]) (fun _ _ => σ) (fun v i => 0 ≤ i ∧ i ≤ n ∧ rl v ∧ ∀ x y : Int, 0 ≤ x → x < 8 → 0 ≤ y → y < 8 → (jb v x y = true ↔ (x < i ∧ y < n ∧ ∃ k, 0 ≤ k ∧ k < n ∧ op x k ∧ op' k y))) (fun _ i => (8 - i).toNat) ?_ 0 0 ⟨by omega, by omega, ⟨by omega, by omega⟩, fun x y a b d e => by rw [jb_0]; constructor; intro q; cases q; intro q; omega⟩
  rintro v i ⟨i1, i2, v1, v2⟩ ih
  refine ok_iload 4 rfl rfl rfl (ok_iload 5 rfl rfl rfl (ok_icmp_ge 6 43 rfl rfl rfl (fun h10 => ?_) (fun h10 => ?_)))
  · refine ok_lload 23 rfl rfl rfl (ok_lret 24 rfl rfl rfl ?_)
    exact ⟨_, rfl, rfl, v1, fun x y a b d e => by rw [v2 x y a b d e, show i = n by omega]⟩
  · have rj := rowJ_sp (J := P) (r := i) ⟨by omega, by omega⟩
    refine ok_lload 7 rfl rfl rfl (ok_lload_n 8 rfl rfl rfl (ok_lload_n 9 rfl rfl rfl (ok_iload 10 rfl rfl rfl (ok_callSI (M' := M_Jo_rowOf) (as := [_, _]) 11 rfl rfl ml_X1_17 (s_Jo_rowOf) ⟨Nat.le_of_ble_eq_true rfl, Nat.le_of_ble_eq_true rfl⟩ rfl (Nat.le_of_ble_eq_true rfl) (fun σ' z hz => ?_)))))
    rw [hz.1, hz.2]
    clear hz z σ'
    refine ok_iload 12 rfl rfl rfl (ok_callSI (M' := M_Jo_columnsOf) (as := [_, _, _]) 13 rfl rfl ml_X1_25 (t_Jo_columnsOf hn rj.1) ⟨Nat.le_of_ble_eq_true rfl, Nat.le_of_ble_eq_true rfl⟩ rfl (Nat.le_of_ble_eq_true rfl) (fun σ' z hz => ?_))
    obtain ⟨hs_, hz⟩ := hz
    rw [hs_]; clear hs_ σ'
    obtain ⟨z1, z2⟩ := cOf_op hn.2 hJ hz
    refine ok_i2l 14 rfl rfl (ok_iload 15 rfl rfl rfl (ok_bipush 16 rfl rfl (by decide) (by decide) (ok_imul 17 rfl rfl (by first | omega | (simp [up_if]; omega) | (simp [up_if] at *; omega)) (ok_lshl 18 rfl rfl (ok_lor 19 rfl rfl (ok_lst5 20 rfl rfl rfl (ok_inc7 21 rfl rfl rfl (by first | omega | (simp [up_if]; omega) | (simp [up_if] at *; omega)) (ok_goto 22 6 rfl rfl rfl ?_))))))))
    refine ih _ (i + 1) ⟨by omega, by omega, rl_lor _ _, fun x y a b d e => ?_⟩ (by omega)
    rw [jb_put z1 ⟨i1, by omega⟩ ⟨a, b⟩ ⟨d, e⟩, Bool.or_eq_true, Bool.and_eq_true, v2 x y a b d e, z2 y d e, decide_eq_true_eq]
    constructor
    · rintro (⟨q1, q2⟩ | ⟨q1, q2, k, k1, k2, k3, k4⟩)
      · exact ⟨by omega, q2⟩
      · rw [rj.2 k k1 (by omega), hP.2 i k i1 (by omega) k1 (by omega)] at k3
        exact ⟨by omega, q2, k, k1, k2, by rw [q1]; exact k3.2.2, k4⟩
    · rintro ⟨q1, q2, k, k1, k2, k3, k4⟩
      by_cases w : x = i
      · refine Or.inr ⟨w, q2, k, k1, k2, ?_, k4⟩
        rw [rj.2 k k1 (by omega), hP.2 i k i1 (by omega) k1 (by omega)]
        exact ⟨by omega, k2, by rw [← w]; exact k3⟩
      · exact Or.inl ⟨by omega, q2, k, k1, k2, k3, k4⟩
theorem full_eq {P F n : Int} {op op' : Int → Int → Prop} (hn : n ≤ 8) (hP : jOf P n op) (hF : jOf F n op') (hf : fuR n op') : P = F ↔ fuR n op := by
  constructor
  · intro e i j a b c d
    have x := (hF.2 i j a (by omega) c (by omega)).mpr ⟨b, d, hf i j a b c d⟩
    rw [← e] at x
    exact ((hP.2 i j a (by omega) c (by omega)).mp x).2.2
  · intro h
    refine jb_ext hP.1 hF.1 (fun x y a b c d => ?_)
    have e1 := hP.2 x y a b c d
    have e2 := hF.2 x y a b c d
    by_cases q : x < n ∧ y < n
    · rw [e1.mpr ⟨q.1, q.2, h x y a q.1 c q.2⟩, e2.mpr ⟨q.1, q.2, hf x y a q.1 c q.2⟩]
    · have f1 : jb P x y = false := by
        cases w : jb P x y with
        | false => rfl
        | true => have := e1.mp w; omega
      have f2 : jb F x y = false := by
        cases w : jb F x y with
        | false => rfl
        | true => have := e2.mp w; omega
      rw [f1, f2]
theorem t_Jo_leastFullPower {σ : eS} {J F n : Int} {W : Int → Int → Int} {op' : Int → Int → Prop} (hn : 0 ≤ n ∧ n ≤ 8) (hJ : jOf J n (fun i j => 1 ≤ W i j)) (hF : jOf F n op') (hf : fuR n op') : MtI shA M_Jo_leastFullPower [vl J, vl F, vi n] σ (fun σ' z => σ' = σ ∧ mxG n W z) := by
  refine Mt.of okM_Jo_leastFullPower (Nat.le_of_ble_eq_true rfl) (fun hk hg => ?_)
  refine ok_lload_n 0 rfl rfl rfl (ok_lst5 1 rfl rfl rfl (ok_iconst 2 rfl rfl (by decide) (ok_ist7 3 rfl rfl rfl ?_)))
  refine lpO2 (fun v m : Int => [some (vl J), none, some (vl F), none, some (vi n), some (vl v), none, some (vi m)]) (fun _ _ => σ) (fun v m => 1 ≤ m ∧ m ≤ 65 ∧ jOf v n (pwR n W (m - 1).toNat) ∧ ∀ q : Int, 1 ≤ q → q < m → ¬ fuR n (pwR n W (q - 1).toNat)) (fun _ m => (65 - m).toNat) ?_ J 1 ⟨by omega, by omega, hJ, fun q a b => by omega⟩
  rintro v m ⟨m1, m2, v1, v2⟩ ih
  have fe := full_eq hn.2 v1 hF hf
  refine ok_iload 4 rfl rfl rfl (ok_bipush 5 rfl rfl (by decide) (by decide) (ok_icmp_gt 6 39 rfl rfl rfl (fun h10 => ?_) (fun h10 => ?_)))
  · refine ok_iconst 20 rfl rfl (by decide) (ok_iret 21 rfl rfl rfl ?_)
    exact ⟨_, rfl, rfl, Or.inl ⟨rfl, fun q a b => v2 q a (by omega)⟩⟩
  · refine ok_lload 7 rfl rfl rfl (ok_lload_n 8 rfl rfl rfl (ok_lcmp_ne 9 10 23 rfl rfl rfl rfl rfl (fun h16 => ?_) (fun h16 => ?_)))
    · refine ok_lload 13 rfl rfl rfl (ok_lload_n 14 rfl rfl rfl (ok_iload 15 rfl rfl rfl (ok_callSL (M' := M_Jo_product) (as := [_, _, _]) 16 rfl rfl ml_X1_40 (t_Jo_product hn v1 hJ) ⟨Nat.le_of_ble_eq_true rfl, Nat.le_of_ble_eq_true rfl⟩ rfl (Nat.le_of_ble_eq_true rfl) (fun σ' z hz => ?_))))
      obtain ⟨hs_, hz⟩ := hz
      rw [hs_]; clear hs_ σ'
      refine ok_lst5 17 rfl rfl rfl (ok_inc7 18 rfl rfl rfl (by first | omega | (simp [up_if]; omega) | (simp [up_if] at *; omega)) (ok_goto 19 6 rfl rfl rfl ?_))
      refine ih _ (m + 1) ⟨by omega, by omega, ?_, ?_⟩ (by omega)
      · rw [show (m + 1 - 1).toNat = (m - 1).toNat + 1 by omega]; exact hz
      · intro q a b
        by_cases y : q = m
        · rw [y]; exact fun w => absurd (fe.mpr w) (by omega)
        · exact v2 q a (by omega)
    · refine ok_iload 11 rfl rfl rfl (ok_iret 12 rfl rfl rfl ?_)
      exact ⟨_, rfl, rfl, Or.inr ⟨⟨m1, by omega⟩, fe.mp (by omega), v2⟩⟩
theorem t_Ev_mixing {σ : eS} {s : Int} (h : IA σ) : MtI shA M_Ev_mixing [vr 0, vi s] σ (fun σ' z => σ' = σ ∧ ((¬ tabA σ s ∧ z = -1) ∨ (tabA σ s ∧ mxG (σ (s.toNat + 2) 1) (cT σ (s.toNat + 2)) z))) := by
  refine Mt.of okM_Ev_mixing (Nat.le_of_ble_eq_true rfl) (fun hk hg => ?_)
  refine ok_aload_n 0 rfl rfl rfl (ok_iload_n 1 rfl rfl rfl (ok_callVR (M' := M_Ev_filledSlot) (as := [_]) 2 rfl rfl ml_X11_137 (s_Ev_filledSlot) rfl rfl (Nat.le_of_ble_eq_true rfl) ⟨Nat.le_of_ble_eq_true rfl, Nat.le_of_ble_eq_true rfl⟩ rfl (Nat.le_of_ble_eq_true rfl) (fun σ' z hz => ?_)))
  obtain ⟨hs_, hz⟩ := hz
  rw [hs_]; clear hs_ σ'
  rcases hz with ⟨q, q0⟩ | ⟨q1, q2, q, q3⟩
  · subst q
    refine ok_ast2 3 rfl rfl rfl (ok_aload_n 4 rfl rfl rfl (ok_ifnonnullN 5 rfl rfl (ok_iconst 6 rfl rfl (by decide) (ok_goto 7 31 rfl rfl rfl (ok_iret 17 rfl rfl rfl ?_)))))
    exact ⟨_, rfl, rfl, Or.inl ⟨q0, rfl⟩⟩
  · subst q
    have ht := sl_tA ⟨q1, q2⟩
    have hT := (h.2.1 _ ht).1
    have m2 := hT.2.1
    refine ok_ast2 3 rfl rfl rfl (ok_aload_n 4 rfl rfl rfl (ok_ifnonnull 5 14 rfl rfl rfl (ok_aload_n 8 rfl rfl rfl (ok_iconst 9 rfl rfl (by decide) (ok_callVL (M' := M_Ta_joinedBy) (as := [_]) 10 rfl rfl ml_X11_119 (t_Ta_joinedBy ht hT) (sT ht) rfl (Nat.le_of_ble_eq_true rfl) ⟨Nat.le_of_ble_eq_true rfl, Nat.le_of_ble_eq_true rfl⟩ rfl (Nat.le_of_ble_eq_true rfl) (fun σ' z1 x1 => ?_))))))
    obtain ⟨hs_, x1⟩ := x1
    rw [hs_]; clear hs_ σ'
    refine ok_aload_n 11 rfl rfl rfl (ok_iconst 12 rfl rfl (by decide) (ok_callVL (M' := M_Ta_joinedBy) (as := [_]) 13 rfl rfl ml_X11_119 (t_Ta_joinedBy ht hT) (sT ht) rfl (Nat.le_of_ble_eq_true rfl) ⟨Nat.le_of_ble_eq_true rfl, Nat.le_of_ble_eq_true rfl⟩ rfl (Nat.le_of_ble_eq_true rfl) (fun σ' z2 x2 => ?_)))
    obtain ⟨hs_, x2⟩ := x2
    rw [hs_]; clear hs_ σ'
    refine ok_aload_n 14 rfl rfl rfl (ok_getI 15 rfl rfl fl_X11_103 (sT ht) rfl (Or.inl rfl) (ok_callSI (M' := M_Jo_leastFullPower) (as := [_, _, _]) 16 rfl rfl ml_X11_279 (t_Jo_leastFullPower ⟨hT.1, hT.2.1⟩ x1 x2 (fun i j a b c d => (cT_bd hT ⟨a, by omega⟩ ⟨c, by omega⟩).1)) ⟨Nat.le_of_ble_eq_true rfl, Nat.le_of_ble_eq_true rfl⟩ rfl (Nat.le_of_ble_eq_true rfl) (fun σ' z3 x3 => ?_)))
    obtain ⟨hs_, x3⟩ := x3
    rw [hs_]; clear hs_ σ'
    refine ok_iret 17 rfl rfl rfl ?_
    exact ⟨_, rfl, rfl, Or.inr ⟨⟨q1, q2, q3⟩, x3⟩⟩
/-- a field of booleans says a relation, up to a place -/
def fdB (ρ : eS) (c : Nat) (n m : Int) (op : Int → Int → Prop) : Prop := ∀ i j, 0 ≤ i → i < n → 0 ≤ j → j < n → n * i + j < m → (ρ c (n * i + j) = 0 ∨ ρ c (n * i + j) = 1) ∧ (ρ c (n * i + j) = 1 ↔ op i j)
theorem fdB_s {ρ : eS} {c : Nat} {n i j v : Int} {op : Int → Int → Prop} (hn : 1 ≤ n ∧ n ≤ 8) (hi : 0 ≤ i ∧ i < n) (hj : 0 ≤ j ∧ j < n) (h : fdB ρ c n (n * i + j) op) (hv : v = 0 ∨ v = 1) (hv2 : v = 1 ↔ op i j) : fdB (up ρ c (n * i + j) v) c n (n * i + (j + 1)) op := fun x y a b d e l => by
  by_cases q : n * x + y = n * i + j
  · obtain ⟨q1, q2⟩ := ix_inj hn ⟨d, e⟩ hj q
    rw [q1, q2, up_same]
    exact ⟨hv, hv2⟩
  · rw [up_nk _ _ _ _ q]
    exact h x y a b d e (by omega)
theorem fdB_r {ρ : eS} {c : Nat} {n i : Int} {op : Int → Int → Prop} (h : fdB ρ c n (n * i + n) op) : fdB ρ c n (n * (i + 1)) op := by
  rw [Int.mul_add, Int.mul_one]
  exact h
theorem fdB_all {ρ : eS} {c : Nat} {n : Int} {op : Int → Int → Prop} (hn : 1 ≤ n ∧ n ≤ 8) (h : fdB ρ c n (n * n) op) {i j : Int} (hi : 0 ≤ i ∧ i < n) (hj : 0 ≤ j ∧ j < n) : (ρ c (n * i + j) = 0 ∨ ρ c (n * i + j) = 1) ∧ (ρ c (n * i + j) = 1 ↔ op i j) :=
  h i j hi.1 hi.2 hj.1 hj.2 (ix8 (n := n) (i := i) (j := j) ⟨by omega, hn.2⟩ hi hj).2.2.1
theorem fdB_lin {ρ : eS} {c : Nat} {n : Int} {f : Int → Prop} {op : Int → Int → Prop} (hn : 1 ≤ n ∧ n ≤ 8) (h : ∀ q, 0 ≤ q → q < n * n → (ρ c q = 0 ∨ ρ c q = 1) ∧ (ρ c q = 1 ↔ f q)) (e : ∀ i j, 0 ≤ i → i < n → 0 ≤ j → j < n → (f (n * i + j) ↔ op i j)) : fdB ρ c n (n * n) op := fun i j a b d g l => by
  have x := ix8 (n := n) (i := i) (j := j) ⟨by omega, hn.2⟩ ⟨a, b⟩ ⟨d, g⟩
  have y := h (n * i + j) (by omega) l
  exact ⟨y.1, y.2.trans (e i j a b d g)⟩
theorem fu_lin {ρ : eS} {c : Nat} {n : Int} {op : Int → Int → Prop} (hn : 1 ≤ n ∧ n ≤ 8) (h : fdB ρ c n (n * n) op) : (∀ q, 0 ≤ q → q < n * n → ρ c q = 1) ↔ fuR n op := by
  constructor
  · intro q i j a b d e
    have x := ix8 (n := n) (i := i) (j := j) ⟨by omega, hn.2⟩ ⟨a, b⟩ ⟨d, e⟩
    exact (fdB_all hn h ⟨a, b⟩ ⟨d, e⟩).2.mp (q _ (by omega) (by omega))
  · intro w q a b
    have g1 := Int.mul_ediv_add_emod q n
    have g2 := Int.emod_nonneg q (by omega : n ≠ 0)
    have g3 := Int.emod_lt_of_pos q (by omega : 0 < n)
    have g4 : q / n < n := Int.ediv_lt_of_lt_mul (by omega) (by omega)
    have g5 : 0 ≤ q / n := Int.ediv_nonneg a (by omega)
    have x := (fdB_all hn h ⟨g5, g4⟩ ⟨g2, g3⟩).2.mpr (w _ _ g5 g4 g2 g3)
    rw [g1] at x
    exact x
theorem bl_01 {ρ : eS} {c : Nat} {n q : Int} {op : Int → Int → Prop} (hn : 1 ≤ n ∧ n ≤ 8) (h : fdB ρ c n (n * n) op) (a : 0 ≤ q) (b : q < n * n) : ρ c q = 0 ∨ ρ c q = 1 := by
  have g1 := Int.mul_ediv_add_emod q n
  have g2 := Int.emod_nonneg q (by omega : n ≠ 0)
  have g3 := Int.emod_lt_of_pos q (by omega : 0 < n)
  have g4 : q / n < n := Int.ediv_lt_of_lt_mul (by omega) (by omega)
  have g5 : 0 ≤ q / n := Int.ediv_nonneg a (by omega)
  have x := (fdB_all hn h ⟨g5, g4⟩ ⟨g2, g3⟩).1
  rw [g1] at x
  exact x
theorem t_Mo_mixing {σ : eS} {s : Int} (hB : iB1 σ) : MtI shB M_Mo_mixing [vr 0, vi s] σ (fun σ' z => fr rgX σ σ' ∧ ((¬ tabB σ s ∧ z = -1) ∨ (tabB σ s ∧ mxG (σ 1 s) (cB σ s) z))) := by
  refine Mt.of okM_Mo_mixing (Nat.le_of_ble_eq_true rfl) (fun hk hg => ?_)
  refine ok_aload_n 0 rfl rfl rfl (ok_iload_n 1 rfl rfl rfl (ok_callVI (M' := M_Mo_isTable) (as := [_]) 2 rfl rfl ml_X12_111 (s_Mo_isTable_r) rfl rfl (Nat.le_of_ble_eq_true rfl) ⟨Nat.le_of_ble_eq_true rfl, Nat.le_of_ble_eq_true rfl⟩ rfl (Nat.le_of_ble_eq_true rfl) (fun σ' z1 a1 => ?_)))
  obtain ⟨hs_, a1⟩ := a1
  rw [hs_]; clear hs_ σ'
  refine ok_if_ne 3 10 rfl rfl rfl (fun h5 => ?_) (fun h5 => ?_)
  · obtain ⟨u1, u2, u3⟩ := yes1 a1 h5
    have tn := hB.1 s u1 u2
    have ht : tabB σ s := ⟨u1, u2, u3⟩
    refine ok_aload_n 6 rfl rfl rfl (ok_getR 7 rfl rfl fl_X12_7 rfl rfl (ok_iload_n 8 rfl rfl rfl (ok_iald 9 rfl rfl rfl (by first | omega | (simp [up_if]; omega) | (simp [up_if] at *; omega)) (ok_ist2 10 rfl rfl rfl (ok_iconst 11 rfl rfl (by decide) (ok_ist3 12 rfl rfl rfl ?_))))))
    obtain ⟨n, en⟩ : ∃ n, n = σ 1 s := ⟨_, rfl⟩
    rw [← en]
    have n1 : 1 ≤ n ∧ n ≤ 8 := by omega
    obtain ⟨q1, q2⟩ := sq8 (n := n) ⟨by omega, by omega⟩
    have E : ∀ τ : eS, fr rgX σ τ → iB1 τ ∧ τ 1 s = n ∧ (∀ k, τ 3 k = σ 3 k) ∧ cB τ s = cB σ s := fun τ g => by
      have e1 : τ 1 s = σ 1 s := g 1 s (by simp [rgX])
      have e3 : ∀ k, τ 3 k = σ 3 k := fun k => g 3 k (by simp [rgX])
      exact ⟨iB1_frS hB g (fun c k q => by simp only [rgX]; omega), by rw [e1, en], e3, by funext i j; unfold cB; rw [e1, e3]⟩
    refine lpO2 (fun (k : Int) (_ : eS) => [some (vr 0), some (vi s), some (vi n), some (vi k), none, none, none, none, none]) (fun _ ρ => ρ) (fun k ρ => 0 ≤ k ∧ k ≤ n * n ∧ fr rgX σ ρ ∧ ∀ q, 0 ≤ q → q < k → (ρ 21 q = 0 ∨ ρ 21 q = 1) ∧ (ρ 21 q = 1 ↔ 0 < σ 3 (64 * s + q))) (fun k _ => (n * n - k).toNat) ?_ 0 _ ⟨by omega, by omega, fr.rf, fun q a b => by omega⟩
    rintro k ρ ⟨k1, k2, f, hl⟩ ih
    have e3 := (E ρ f).2.2.1 (64 * s + k)
    refine ok_iload_n 13 rfl rfl rfl (ok_iload_n 14 rfl rfl rfl (ok_iload_n 15 rfl rfl rfl (ok_imul 16 rfl rfl (by first | omega | (simp [up_if]; omega) | (simp [up_if] at *; omega)) (ok_icmp_ge 17 57 rfl rfl rfl (fun h23 => ?_) (fun h23 => ?_)))))
    · refine ok_iconst 36 rfl rfl (by decide) (ok_ist3 37 rfl rfl rfl ?_)
      clear ih k1
      have ek : k = n * n := by omega
      rw [ek] at hl
      have hP : fdB ρ 21 n (n * n) (pwR n (cB σ s) 0) := fdB_lin n1 hl (fun i j a b c d => by show 0 < σ 3 (64 * s + (n * i + j)) ↔ 1 ≤ cB σ s i j; unfold cB; rw [← en, ← Int.add_assoc]; omega)
      clear ek k2 hl e3
      refine lpO2 (fun (k : Int) (_ : eS) => [some (vr 0), some (vi s), some (vi n), some (vi k), none, none, none, none, none]) (fun _ ρ => ρ) (fun k ρ => 1 ≤ k ∧ k ≤ 65 ∧ fr rgX σ ρ ∧ fdB ρ 21 n (n * n) (pwR n (cB σ s) (k - 1).toNat) ∧ ∀ q : Int, 1 ≤ q → q < k → ¬ fuR n (pwR n (cB σ s) (q - 1).toNat)) (fun k _ => (65 - k).toNat) ?_ 1 ρ ⟨by omega, by omega, f, hP, fun q a b => by omega⟩
      clear f hP h23 k ρ
      rintro k ρ ⟨k1, k2, f, hP, hno⟩ ih
      have fl := fu_lin n1 hP
      refine ok_iload_n 38 rfl rfl rfl (ok_bipush 39 rfl rfl (by decide) (by decide) (ok_icmp_gt 40 252 rfl rfl rfl (fun h62 => ?_) (fun h62 => ?_)))
      · refine ok_iconst 139 rfl rfl (by decide) (ok_iret 140 rfl rfl rfl ?_)
        exact ⟨_, rfl, f, Or.inr ⟨ht, Or.inl ⟨rfl, fun q a b => hno q a (by omega)⟩⟩⟩
      · refine ok_iconst 41 rfl rfl (by decide) (ok_ist4 42 rfl rfl rfl (ok_iconst 43 rfl rfl (by decide) (ok_ist5 44 rfl rfl rfl ?_)))
        refine lpO2 (fun (a i : Int) => [some (vr 0), some (vi s), some (vi n), some (vi k), some (vi a), some (vi i), none, none, none]) (fun _ _ => ρ) (fun a i => 0 ≤ i ∧ i ≤ n * n ∧ (a = 0 ∨ a = 1) ∧ (a = 1 ↔ ∀ q, 0 ≤ q → q < i → ρ 21 q = 1)) (fun _ i => (n * n - i).toNat) ?_ 1 0 ⟨by omega, by omega, by omega, fun _ q a b => by omega, fun _ => rfl⟩
        rintro a i ⟨i1, i2, i3, i4⟩ ih2
        refine ok_iload 45 rfl rfl rfl (ok_iload_n 46 rfl rfl rfl (ok_iload_n 47 rfl rfl rfl (ok_imul 48 rfl rfl (by first | omega | (simp [up_if]; omega) | (simp [up_if] at *; omega)) (ok_icmp_ge 49 107 rfl rfl rfl (fun h76 => ?_) (fun h76 => ?_)))))
        · refine ok_iload 63 rfl rfl rfl (ok_if_eq 64 114 rfl rfl rfl (fun h109 => ?_) (fun h109 => ?_))
          · refine ok_iconst 67 rfl rfl (by decide) (ok_ist5 68 rfl rfl rfl ?_)
            have ei : i = n * n := by omega
            rw [ei] at i4
            have hn0 : ¬ fuR n (pwR n (cB σ s) (k - 1).toNat) := fun y => by have := i4.mpr (fl.mpr y); omega
            clear ih2 i1 i2 i3 i4 ei
            obtain ⟨op, eop⟩ : ∃ op, op = pwR n (cB σ s) ((k - 1).toNat + 1) := ⟨_, rfl⟩
            have r21 : fr (fun c _ => c = 22) ρ ρ := fr.rf
            obtain ⟨R, eR⟩ : ∃ R, R = ρ := ⟨_, rfl⟩
            rw [← eR] at hP
            refine lpO2 (fun (i : Int) (_ : eS) => [some (vr 0), some (vi s), some (vi n), some (vi k), some (vi a), some (vi i), none, none, none]) (fun _ ρ => ρ) (fun i ρ => 0 ≤ i ∧ i ≤ n ∧ fr rgX σ ρ ∧ fr (fun c _ => c = 22) R ρ ∧ fdB ρ 22 n (n * i) op) (fun i _ => (n - i).toNat) ?_ 0 ρ ⟨by omega, by omega, f, by rw [eR]; exact fr.rf, fun x y c d e g l => by have := ix8 (n := n) (i := x) (j := y) ⟨by omega, by omega⟩ ⟨c, d⟩ ⟨e, g⟩; omega⟩
            clear f eR fl r21 h76 i ρ
            rintro i ρ ⟨i1, i2, f, fR, hz⟩ ih2
            refine ok_iload 69 rfl rfl rfl (ok_iload_n 70 rfl rfl rfl (ok_icmp_ge 71 215 rfl rfl rfl (fun h120 => ?_) (fun h120 => ?_)))
            · refine ok_iconst 120 rfl rfl (by decide) (ok_ist5 121 rfl rfl rfl ?_)
              have hz' : fdB ρ 22 n (n * n) op := by rw [show i = n by omega] at hz; exact hz
              clear ih2 i1 i2 hz fR
              obtain ⟨T, eT⟩ : ∃ T, T = ρ := ⟨_, rfl⟩
              rw [← eT] at hz'
              refine lpO2 (fun (i : Int) (_ : eS) => [some (vr 0), some (vi s), some (vi n), some (vi k), some (vi a), some (vi i), none, none, none]) (fun _ ρ => ρ) (fun i ρ => 0 ≤ i ∧ i ≤ n * n ∧ fr rgX σ ρ ∧ (∀ q, ρ 22 q = T 22 q) ∧ ∀ q, 0 ≤ q → q < i → ρ 21 q = T 22 q) (fun i _ => (n * n - i).toNat) ?_ 0 ρ ⟨by omega, by omega, f, fun q => by rw [eT], fun q a b => by omega⟩
              clear f eT ρ h120 i
              rintro i ρ ⟨i1, i2, f, fT, hq⟩ ih2
              refine ok_iload 122 rfl rfl rfl (ok_iload_n 123 rfl rfl rfl (ok_iload_n 124 rfl rfl rfl (ok_imul 125 rfl rfl (by first | omega | (simp [up_if]; omega) | (simp [up_if] at *; omega)) (ok_icmp_ge 126 246 rfl rfl rfl (fun h223 => ?_) (fun h223 => ?_)))))
              · refine ok_inc3 137 rfl rfl rfl (by first | omega | (simp [up_if]; omega) | (simp [up_if] at *; omega)) (ok_goto 138 59 rfl rfl rfl ?_)
                refine ok_fg [some (vr 0), some (vi s), some (vi n), some (vi (k + 1)), none, none, none, none, none] ⟨rfl, rfl, rfl, rfl, trivial⟩ (ih (k + 1) _ ⟨by omega, by omega, f, ?_, ?_⟩ (by omega))
                · rw [show (k + 1 - 1).toNat = (k - 1).toNat + 1 by omega, ← eop]
                  intro x y c d e g l
                  have bx := ix8 (n := n) (i := x) (j := y) ⟨by omega, by omega⟩ ⟨c, d⟩ ⟨e, g⟩
                  rw [hq _ (by omega) (by omega)]
                  exact hz' x y c d e g l
                · intro q c d
                  by_cases y : q = k
                  · rw [y]; exact hn0
                  · exact hno q c (by omega)
              · refine ok_aload_n 127 rfl rfl rfl (ok_getR 128 rfl rfl fl_X12_75 rfl rfl (ok_iload 129 rfl rfl rfl (ok_aload_n 130 rfl rfl rfl (ok_getR 131 rfl rfl fl_X12_79 rfl rfl (ok_iload 132 rfl rfl rfl (ok_zald 133 rfl rfl rfl (by first | omega | (simp [up_if]; omega) | (simp [up_if] at *; omega)) (ok_zast 134 rfl rfl rfl (by omega) (by rw [fT]; exact bl_01 n1 hz' i1 (by omega)) (ok_inc5 135 rfl rfl rfl (by first | omega | (simp [up_if]; omega) | (simp [up_if] at *; omega)) (ok_goto 136 218 rfl rfl rfl ?_)))))))))
                refine ih2 (i + 1) _ ⟨by omega, by omega, fr_up f (by simp [rgX]), fun q => by rw [up_ne _ _ _ _ (by decide)]; exact fT q, lt_ext (fun q a b => by rw [up_nk _ _ _ _ (by omega)]; exact hq q a b) ?_⟩ (by omega)
                rw [up_same, fT]
            · refine ok_iconst 72 rfl rfl (by decide) (ok_ist6 73 rfl rfl rfl ?_)
              refine lpO2 (fun (j : Int) (_ : eS) => [some (vr 0), some (vi s), some (vi n), some (vi k), some (vi a), some (vi i), some (vi j), none, none]) (fun _ ρ => ρ) (fun j ρ => 0 ≤ j ∧ j ≤ n ∧ fr rgX σ ρ ∧ fr (fun c _ => c = 22) R ρ ∧ fdB ρ 22 n (n * i + j) op) (fun j _ => (n - j).toNat) ?_ 0 ρ ⟨by omega, by omega, f, fR, by rw [Int.add_zero]; exact hz⟩
              clear f fR hz ρ
              rintro j ρ ⟨j1, j2, f, fR, hz⟩ ih3
              refine ok_iload 74 rfl rfl rfl (ok_iload_n 75 rfl rfl rfl (ok_icmp_ge 76 209 rfl rfl rfl (fun h129 => ?_) (fun h129 => ?_)))
              · refine ok_inc5 118 rfl rfl rfl (by first | omega | (simp [up_if]; omega) | (simp [up_if] at *; omega)) (ok_goto 119 117 rfl rfl rfl ?_)
                exact ok_fg [some (vr 0), some (vi s), some (vi n), some (vi k), some (vi a), some (vi (i + 1)), none, none, none] ⟨rfl, rfl, rfl, rfl, rfl, rfl, trivial⟩ (ih2 (i + 1) _ ⟨by omega, by omega, f, fR, fdB_r (by rw [show j = n by omega] at hz; exact hz)⟩ (by omega))
              · refine ok_iconst 77 rfl rfl (by decide) (ok_ist7 78 rfl rfl rfl (ok_iconst 79 rfl rfl (by decide) (ok_ist8 80 rfl rfl rfl ?_)))
                obtain ⟨eb, e1, e3, ec⟩ := E ρ f
                refine lpO2 (fun (v m : Int) => [some (vr 0), some (vi s), some (vi n), some (vi k), some (vi a), some (vi i), some (vi j), some (vi v), some (vi m)]) (fun _ _ => ρ) (fun v m => 0 ≤ m ∧ m ≤ n ∧ (v = 0 ∨ v = 1) ∧ (v = 1 ↔ ∃ q, 0 ≤ q ∧ q < m ∧ pwR n (cB σ s) (k - 1).toNat i q ∧ 1 ≤ cB σ s q j)) (fun _ m => (n - m).toNat) ?_ 0 0 ⟨by omega, by omega, by omega, fun y => absurd y (by decide), fun ⟨q, a, b, _⟩ => by omega⟩
                rintro v m ⟨m1, m2, m3, m4⟩ ih4
                have bi := ix8 (n := n) (i := i) (j := j) ⟨by omega, by omega⟩ ⟨by omega, by omega⟩ ⟨by omega, by omega⟩
                have old : (∃ q, 0 ≤ q ∧ q < m ∧ pwR n (cB σ s) (k - 1).toNat i q ∧ 1 ≤ cB σ s q j) → (∃ q, 0 ≤ q ∧ q < m + 1 ∧ pwR n (cB σ s) (k - 1).toNat i q ∧ 1 ≤ cB σ s q j) := fun ⟨q, a, b, c⟩ => ⟨q, a, by omega, c⟩
                refine ok_iload 81 rfl rfl rfl (ok_iload_n 82 rfl rfl rfl (ok_icmp_ge 83 189 rfl rfl rfl (fun h141 => ?_) (fun h141 => ?_)))
                · refine ok_aload_n 107 rfl rfl rfl (ok_getR 108 rfl rfl fl_X12_79 rfl rfl (ok_iload_n 109 rfl rfl rfl (ok_iload 110 rfl rfl rfl (ok_imul 111 rfl rfl (by first | omega | (simp [up_if]; omega) | (simp [up_if] at *; omega)) (ok_iload 112 rfl rfl rfl (ok_iadd 113 rfl rfl (by first | omega | (simp [up_if]; omega) | (simp [up_if] at *; omega)) (ok_iload 114 rfl rfl rfl (ok_zast 115 rfl rfl rfl (by first | omega | (simp [up_if]; omega) | (simp [up_if] at *; omega)) (by first | omega | (simp [up_if]; omega) | (simp [up_if] at *; omega)) (ok_inc6 116 rfl rfl rfl (by first | omega | (simp [up_if]; omega) | (simp [up_if] at *; omega)) (ok_goto 117 126 rfl rfl rfl ?_))))))))))
                  have em : m = n := by omega
                  rw [em] at m4
                  refine ok_fg [some (vr 0), some (vi s), some (vi n), some (vi k), some (vi a), some (vi i), some (vi (j + 1)), none, none] ⟨rfl, rfl, rfl, rfl, rfl, rfl, rfl, trivial⟩ (ih3 (j + 1) _ ⟨by omega, by omega, fr_up f (by simp [rgX]), fr_up fR rfl, fdB_s n1 ⟨by omega, by omega⟩ ⟨by omega, by omega⟩ hz m3 ?_⟩ (by omega))
                  rw [eop]
                  exact m4
                · have bm := ix8 (n := n) (i := i) (j := m) ⟨by omega, by omega⟩ ⟨by omega, by omega⟩ ⟨by omega, by omega⟩
                  have rm := fdB_all n1 hP (i := i) (j := m) ⟨by omega, by omega⟩ ⟨m1, by omega⟩
                  rw [← fR 21 (n * i + m) (by omega)] at rm
                  refine ok_iload 84 rfl rfl rfl (ok_if_ne 85 176 rfl rfl rfl (fun h146 => ?_) (fun h146 => ?_))
                  · refine ok_iconst 101 rfl rfl (by decide) (ok_goto 102 181 rfl rfl rfl (ok_ist7 104 rfl rfl rfl (ok_inc8 105 rfl rfl rfl (by first | omega | (simp [up_if]; omega) | (simp [up_if] at *; omega)) (ok_goto 106 138 rfl rfl rfl ?_))))
                    exact ih4 _ (m + 1) ⟨by omega, by omega, by omega, fun _ => old (m4.mp (by omega)), fun _ => rfl⟩ (by omega)
                  · refine ok_aload_n 86 rfl rfl rfl (ok_getR 87 rfl rfl fl_X12_75 rfl rfl (ok_iload_n 88 rfl rfl rfl (ok_iload 89 rfl rfl rfl (ok_imul 90 rfl rfl (by first | omega | (simp [up_if]; omega) | (simp [up_if] at *; omega)) (ok_iload 91 rfl rfl rfl (ok_iadd 92 rfl rfl (by first | omega | (simp [up_if]; omega) | (simp [up_if] at *; omega)) (ok_zald 93 rfl rfl rfl (by first | omega | (simp [up_if]; omega) | (simp [up_if] at *; omega)) (ok_if_eq 94 180 rfl rfl rfl (fun h161 => ?_) (fun h161 => ?_)))))))))
                    · refine ok_iconst 103 rfl rfl (by decide) (ok_ist7 104 rfl rfl rfl (ok_inc8 105 rfl rfl rfl (by first | omega | (simp [up_if]; omega) | (simp [up_if] at *; omega)) (ok_goto 106 138 rfl rfl rfl ?_)))
                      refine ih4 _ (m + 1) ⟨by omega, by omega, by omega, fun y => absurd y (by decide), fun ⟨q, a, b, c, d⟩ => ?_⟩ (by omega)
                      exfalso
                      rcases (by omega : q < m ∨ q = m) with w | w
                      · have := m4.mpr ⟨q, a, w, c, d⟩; omega
                      · rw [w] at c; have := rm.2.mpr c; omega
                    · refine ok_aload_n 95 rfl rfl rfl (ok_iload_n 96 rfl rfl rfl (ok_iload 97 rfl rfl rfl (ok_iload 98 rfl rfl rfl (ok_callVI (M' := M_Mo_at) (as := [_, _, _]) 99 rfl rfl ml_X12_107 (s_Mo_at eb ⟨u1, u2⟩ ⟨by omega, by omega⟩ ⟨by omega, by omega⟩) rfl rfl (Nat.le_of_ble_eq_true rfl) ⟨Nat.le_of_ble_eq_true rfl, Nat.le_of_ble_eq_true rfl⟩ rfl (Nat.le_of_ble_eq_true rfl) (fun σ' z hz => ?_)))))
                      rw [hz.1, hz.2, ec]; clear hz z σ'
                      refine ok_if_le 100 180 rfl rfl rfl (fun h173 => ?_) (fun h173 => ?_)
                      · refine ok_iconst 103 rfl rfl (by decide) (ok_ist7 104 rfl rfl rfl (ok_inc8 105 rfl rfl rfl (by first | omega | (simp [up_if]; omega) | (simp [up_if] at *; omega)) (ok_goto 106 138 rfl rfl rfl ?_)))
                        refine ih4 _ (m + 1) ⟨by omega, by omega, by omega, fun y => absurd y (by decide), fun ⟨q, a, b, c, d⟩ => ?_⟩ (by omega)
                        exfalso
                        rcases (by omega : q < m ∨ q = m) with w | w
                        · have := m4.mpr ⟨q, a, w, c, d⟩; omega
                        · rw [w] at d; omega
                      · refine ok_iconst 101 rfl rfl (by decide) (ok_goto 102 181 rfl rfl rfl (ok_ist7 104 rfl rfl rfl (ok_inc8 105 rfl rfl rfl (by first | omega | (simp [up_if]; omega) | (simp [up_if] at *; omega)) (ok_goto 106 138 rfl rfl rfl ?_))))
                        exact ih4 _ (m + 1) ⟨by omega, by omega, by omega, fun _ => ⟨m, m1, by omega, rm.2.mp (by omega), by omega⟩, fun _ => rfl⟩ (by omega)
          · refine ok_iload_n 65 rfl rfl rfl (ok_iret 66 rfl rfl rfl ?_)
            have ei : i = n * n := by omega
            rw [ei] at i4
            exact ⟨_, rfl, f, Or.inr ⟨ht, Or.inr ⟨⟨k1, by omega⟩, fl.mp (i4.mp (by omega)), hno⟩⟩⟩
        · refine ok_iload 50 rfl rfl rfl (ok_if_eq 51 98 rfl rfl rfl (fun h81 => ?_) (fun h81 => ?_))
          · refine ok_iconst 59 rfl rfl (by decide) (ok_ist4 60 rfl rfl rfl (ok_inc5 61 rfl rfl rfl (by first | omega | (simp [up_if]; omega) | (simp [up_if] at *; omega)) (ok_goto 62 71 rfl rfl rfl ?_)))
            refine ih2 _ (i + 1) ⟨by omega, by omega, by omega, ?_⟩ (by omega)
            first
              | (refine ⟨fun _ => lt_ext (i4.mp (by omega)) ?_, fun _ => rfl⟩
                 have := bl_01 n1 hP i1 (by omega)
                 omega)
              | (refine ⟨fun y => absurd y (by decide), fun y => ?_⟩
                 exfalso
                 have y1 := y i i1 (by omega)
                 have y2 := i4.mpr (fun q c d => y q c (by omega))
                 omega)
          · refine ok_aload_n 52 rfl rfl rfl (ok_getR 53 rfl rfl fl_X12_75 rfl rfl (ok_iload 54 rfl rfl rfl (ok_zald 55 rfl rfl rfl (by first | omega | (simp [up_if]; omega) | (simp [up_if] at *; omega)) (ok_if_eq 56 98 rfl rfl rfl (fun h91 => ?_) (fun h91 => ?_)))))
            · refine ok_iconst 59 rfl rfl (by decide) (ok_ist4 60 rfl rfl rfl (ok_inc5 61 rfl rfl rfl (by first | omega | (simp [up_if]; omega) | (simp [up_if] at *; omega)) (ok_goto 62 71 rfl rfl rfl ?_)))
              refine ih2 _ (i + 1) ⟨by omega, by omega, by omega, ?_⟩ (by omega)
              first
                | (refine ⟨fun _ => lt_ext (i4.mp (by omega)) ?_, fun _ => rfl⟩
                   have := bl_01 n1 hP i1 (by omega)
                   omega)
                | (refine ⟨fun y => absurd y (by decide), fun y => ?_⟩
                   exfalso
                   have y1 := y i i1 (by omega)
                   have y2 := i4.mpr (fun q c d => y q c (by omega))
                   omega)
            · refine ok_iconst 57 rfl rfl (by decide) (ok_goto 58 99 rfl rfl rfl (ok_ist4 60 rfl rfl rfl (ok_inc5 61 rfl rfl rfl (by first | omega | (simp [up_if]; omega) | (simp [up_if] at *; omega)) (ok_goto 62 71 rfl rfl rfl ?_))))
              refine ih2 _ (i + 1) ⟨by omega, by omega, by omega, ?_⟩ (by omega)
              first
                | (refine ⟨fun _ => lt_ext (i4.mp (by omega)) ?_, fun _ => rfl⟩
                   have := bl_01 n1 hP i1 (by omega)
                   omega)
                | (refine ⟨fun y => absurd y (by decide), fun y => ?_⟩
                   exfalso
                   have y1 := y i i1 (by omega)
                   have y2 := i4.mpr (fun q c d => y q c (by omega))
                   omega)
    · refine ok_aload_n 18 rfl rfl rfl (ok_getR 19 rfl rfl fl_X12_75 rfl rfl (ok_iload_n 20 rfl rfl rfl (ok_aload_n 21 rfl rfl rfl (ok_getR 22 rfl rfl fl_X12_16 rfl rfl (ok_bipush 23 rfl rfl (by decide) (by decide) (ok_iload_n 24 rfl rfl rfl (ok_imul 25 rfl rfl (by first | omega | (simp [up_if]; omega) | (simp [up_if] at *; omega)) (ok_iload_n 26 rfl rfl rfl (ok_iadd 27 rfl rfl (by first | omega | (simp [up_if]; omega) | (simp [up_if] at *; omega)) (ok_iald 28 rfl rfl rfl (by first | omega | (simp [up_if]; omega) | (simp [up_if] at *; omega)) (ok_if_le 29 49 rfl rfl rfl (fun h42 => ?_) (fun h42 => ?_))))))))))))
      · refine ok_iconst 32 rfl rfl (by decide) (ok_zast 33 rfl rfl rfl (by first | omega | (simp [up_if]; omega) | (simp [up_if] at *; omega)) (by first | omega | (simp [up_if]; omega) | (simp [up_if] at *; omega)) (ok_inc3 34 rfl rfl rfl (by first | omega | (simp [up_if]; omega) | (simp [up_if] at *; omega)) (ok_goto 35 19 rfl rfl rfl ?_)))
        refine ih (k + 1) _ ⟨by omega, by omega, fr_up f (by simp [rgX]), lt_ext (fun q a b => by rw [up_nk _ _ _ _ (by omega)]; exact hl q a b) ?_⟩ (by omega)
        rw [up_same]
        omega
      · refine ok_iconst 30 rfl rfl (by decide) (ok_goto 31 50 rfl rfl rfl (ok_zast 33 rfl rfl rfl (by first | omega | (simp [up_if]; omega) | (simp [up_if] at *; omega)) (by first | omega | (simp [up_if]; omega) | (simp [up_if] at *; omega)) (ok_inc3 34 rfl rfl rfl (by first | omega | (simp [up_if]; omega) | (simp [up_if] at *; omega)) (ok_goto 35 19 rfl rfl rfl ?_))))
        refine ih (k + 1) _ ⟨by omega, by omega, fr_up f (by simp [rgX]), lt_ext (fun q a b => by rw [up_nk _ _ _ _ (by omega)]; exact hl q a b) ?_⟩ (by omega)
        rw [up_same]
        omega
  · refine ok_iconst 4 rfl rfl (by decide) (ok_iret 5 rfl rfl rfl ?_)
    exact ⟨_, rfl, fr.rf, Or.inl ⟨no1 a1 h5, rfl⟩⟩
end
section
/-! KIN: what can be reached, by rounds and by Warshall's way -/
def RS (n : Int) (W : Int → Int → Int) (a : Int) : Nat → Int → Prop
  | 0 => fun c => c = a
  | m + 1 => fun c => RS n W a m c ∨ (c < n ∧ ∃ r, 0 ≤ r ∧ r < n ∧ RS n W a m r ∧ 1 ≤ W r c)
def RT (n : Int) (W : Int → Int → Int) (a c : Int) : Prop := ∃ m, RS n W a m c
section K12
variable {n a b c : Int} {W V : Int → Int → Int}
theorem RS_le {m : Nat} : ∀ {k : Nat}, RS n W a m c → RS n W a (m + k) c
  | 0, h => h
  | _ + 1, h => Or.inl (RS_le h)
theorem stab {m : Nat} (h : ∀ c, 0 ≤ c → c < n → RS n W a (m + 1) c → RS n W a m c) (ha : 0 ≤ a ∧ a < n) : ∀ (k : Nat) (c : Int), 0 ≤ c → RS n W a (m + k) c → RS n W a m c
  | 0, _, _, q => q
  | k + 1, c, hc, q => by
    rcases q with q | ⟨q1, r, q2, q3, q4, q5⟩
    · exact stab h ha k c hc q
    · exact h c hc q1 (Or.inr ⟨q1, r, q2, q3, stab h ha k r q2 q4, q5⟩)
noncomputable def cn (n : Int) (W : Int → Int → Int) (a : Int) (m : Nat) : Int := sm (fun c => @ite Int (RS n W a m c) (Classical.propDecidable _) 1 0) n.toNat
theorem cn_bd (hn : 0 ≤ n) (m : Nat) : cn n W a m ≤ n := by
  have := sm_bd (f := fun c => @ite Int (RS n W a m c) (Classical.propDecidable _) 1 0) (B := 1) (by decide) (n := n.toNat) (fun k _ _ => by (try dsimp only); split <;> omega)
  unfold cn
  omega
theorem cn_s {m : Nat} (h : ¬ ∀ c, 0 ≤ c → c < n → RS n W a (m + 1) c → RS n W a m c) : cn n W a m + 1 ≤ cn n W a (m + 1) := by
  obtain ⟨c, hc⟩ := Classical.not_forall.mp h
  obtain ⟨c1, hc⟩ := Classical.not_imp.mp hc
  obtain ⟨c2, hc⟩ := Classical.not_imp.mp hc
  obtain ⟨c3, c4⟩ := Classical.not_imp.mp hc
  unfold cn
  refine sm_less (x := c) (fun k p q => ?_) c1 (by omega) ?_
  · by_cases w : RS n W a m k
    · rw [if_pos w, if_pos (show RS n W a (m + 1) k from Or.inl w)]; exact Int.le_refl _
    · rw [if_neg w]; split <;> omega
  · rw [if_neg c4, if_pos c3]; decide
theorem cn_0 (ha : 0 ≤ a ∧ a < n) : 1 ≤ cn n W a 0 := by
  have := sm_le (f := fun c => @ite Int (RS n W a 0 c) (Classical.propDecidable _) 1 0) (n := n.toNat) (fun k _ _ => by (try dsimp only); split <;> omega) a ha.1 (by omega)
  try dsimp only at this
  rw [if_pos (show RS n W a 0 a from rfl)] at this
  unfold cn
  exact this
theorem some_st (ha : 0 ≤ a ∧ a < n) : ∀ m : Nat, (∃ k, k < m ∧ ∀ c, 0 ≤ c → c < n → RS n W a (k + 1) c → RS n W a k c) ∨ (m : Int) + 1 ≤ cn n W a m
  | 0 => Or.inr (by have := cn_0 (n := n) (W := W) ha; omega)
  | m + 1 => by
    rcases some_st ha m with ⟨k, h1, h2⟩ | h
    · exact Or.inl ⟨k, by omega, h2⟩
    · by_cases q : ∀ c, 0 ≤ c → c < n → RS n W a (m + 1) c → RS n W a m c
      · exact Or.inl ⟨m, by omega, q⟩
      · have := cn_s q
        exact Or.inr (by omega)
/-- n rounds are enough -/
theorem RS_n (ha : 0 ≤ a ∧ a < n) (hc : 0 ≤ c) : RS n W a n.toNat c ↔ RT n W a c := by
  refine ⟨fun h => ⟨_, h⟩, fun ⟨m, h⟩ => ?_⟩
  rcases some_st (W := W) ha n.toNat with ⟨k, h1, h2⟩ | q
  · have x := RS_le (k := k) h
    rw [Nat.add_comm m k] at x
    have y := stab h2 ha m c hc x
    have z := RS_le (k := n.toNat - k) y
    rwa [show k + (n.toNat - k) = n.toNat by omega] at z
  · have := cn_bd (n := n) (W := W) (a := a) (by omega) n.toNat
    omega
theorem RT_tr (h : RT n W a b) : ∀ (m : Nat) (c : Int), RS n W b m c → RT n W a c
  | 0, c, q => by
    have q : c = b := q
    rw [q]; exact h
  | m + 1, c, q => by
    rcases q with q | ⟨q1, r, q2, q3, q4, q5⟩
    · exact RT_tr h m c q
    · obtain ⟨k, hk⟩ := RT_tr h m r q4
      exact ⟨k + 1, Or.inr ⟨q1, r, q2, q3, hk, q5⟩⟩
theorem RS_cg (e : ag n W V) (ha : 0 ≤ a ∧ a < n) : ∀ (m : Nat) (c : Int), 0 ≤ c → RS n W a m c → RS n V a m c
  | 0, _, _, q => q
  | m + 1, c, hc, q => by
    rcases q with q | ⟨q1, r, q2, q3, q4, q5⟩
    · exact Or.inl (RS_cg e ha m c hc q)
    · exact Or.inr ⟨q1, r, q2, q3, RS_cg e ha m r q2 q4, by rw [← e r c q2 q3 hc q1]; exact q5⟩
theorem RT_cg (e : ag n W V) (ha : 0 ≤ a ∧ a < n) (hc : 0 ≤ c) : RT n W a c ↔ RT n V a c := ⟨fun ⟨m, h⟩ => ⟨m, RS_cg e ha m c hc h⟩, fun ⟨m, h⟩ => ⟨m, RS_cg e.sy ha m c hc h⟩⟩
end K12
/-- by way of the first k alone -/
def WP (W : Int → Int → Int) : Nat → Int → Int → Prop
  | 0 => fun i j => i = j ∨ 1 ≤ W i j
  | k + 1 => fun i j => WP W k i j ∨ (WP W k i (k : Int) ∧ WP W k (k : Int) j)
section K12b
variable {n : Int} {W : Int → Int → Int}
theorem WP_le {k : Nat} {i j : Int} : ∀ {d : Nat}, WP W k i j → WP W (k + d) i j
  | 0, h => h
  | _ + 1, h => Or.inl (WP_le h)
theorem WP_k1 {k : Nat} {i : Int} : WP W (k + 1) i (k : Int) ↔ WP W k i (k : Int) := ⟨fun h => by
  rcases h with h | h
  · exact h
  · exact h.1, Or.inl⟩
theorem WP_k2 {k : Nat} {j : Int} : WP W (k + 1) (k : Int) j ↔ WP W k (k : Int) j := ⟨fun h => by
  rcases h with h | h
  · exact h
  · exact h.2, Or.inl⟩
theorem WP_tr {k : Nat} : ∀ (d : Nat) (i j : Int), WP W (k + 1 + d) i (k : Int) → WP W (k + 1 + d) (k : Int) j → WP W (k + 1 + d) i j
  | 0, i, j, h, g => Or.inr ⟨WP_k1.mp h, WP_k2.mp g⟩
  | d + 1, i, j, h, g => by
    rcases h with h | ⟨h1, h2⟩ <;> rcases g with g | ⟨g1, g2⟩
    · exact Or.inl (WP_tr d i j h g)
    · exact Or.inr ⟨WP_tr d i _ h g1, g2⟩
    · exact Or.inr ⟨h1, WP_tr d _ j h2 g⟩
    · exact Or.inr ⟨h1, g2⟩
theorem WP_RT : ∀ (k : Nat) (i j : Int), (k : Int) ≤ n → 0 ≤ i → i < n → 0 ≤ j → j < n → WP W k i j → RT n W i j
  | 0, i, j, _, i1, i2, j1, j2, h => by
    rcases h with h | h
    · exact ⟨0, h.symm⟩
    · exact ⟨1, Or.inr ⟨j2, i, i1, i2, rfl, h⟩⟩
  | k + 1, i, j, hk, i1, i2, j1, j2, h => by
    rcases h with h | ⟨h1, h2⟩
    · exact WP_RT k i j (by omega) i1 i2 j1 j2 h
    · obtain ⟨m, hm⟩ := WP_RT k (k : Int) j (by omega) (by omega) (by omega) j1 j2 h2
      exact RT_tr (WP_RT k i (k : Int) (by omega) i1 i2 (by omega) (by omega) h1) m j hm
theorem RS_WP {i : Int} (hi : 0 ≤ i ∧ i < n) : ∀ (m : Nat) (j : Int), 0 ≤ j → RS n W i m j → WP W n.toNat i j
  | 0, j, _, h => by
    have x : WP W 0 i j := Or.inl (Eq.symm h)
    have y := WP_le (d := n.toNat) x
    rwa [Nat.zero_add] at y
  | m + 1, j, hj, h => by
    rcases h with h | ⟨h1, r, h2, h3, h4, h5⟩
    · exact RS_WP hi m j hj h
    · have x := RS_WP hi m r h2 h4
      have y : WP W 0 r j := Or.inr h5
      have y := WP_le (d := n.toNat) y
      rw [Nat.zero_add] at y
      have e : n.toNat = r.toNat + 1 + (n.toNat - r.toNat - 1) := by omega
      have er : ((r.toNat : Nat) : Int) = r := Int.toNat_of_nonneg h2
      rw [e] at x y ⊢
      exact WP_tr _ i j (by rw [er]; exact x) (by rw [er]; exact y)
theorem WP_iff {i j : Int} (hi : 0 ≤ i ∧ i < n) (hj : 0 ≤ j ∧ j < n) : WP W n.toNat i j ↔ RT n W i j := ⟨fun h => WP_RT n.toNat i j (by omega) hi.1 hi.2 hj.1 hj.2 h, fun ⟨m, h⟩ => RS_WP hi m j hj.1 h⟩
end K12b
def kiS (n : Int) (W : Int → Int → Int) (r z : Int) : Prop := (0 ≤ z ∧ z < 256) ∧ ∀ c : Int, 0 ≤ c → c < 8 → (bt z c = true ↔ (c < n ∧ RT n W r c ∧ RT n W c r))
theorem kiS_un {n r z z' : Int} {W V : Int → Int → Int} (hn : n ≤ 8) (e : ag n W V) (hr : 0 ≤ r ∧ r < n) (h : kiS n W r z) (h' : kiS n V r z') : z = z' := bt_ext h.1 h'.1 (fun c a b => by
  have x : bt z c = true ↔ bt z' c = true := by
    rw [h.2 c a b, h'.2 c a b]
    constructor
    · rintro ⟨p, q, w⟩; exact ⟨p, (RT_cg e hr a).mp q, (RT_cg e ⟨a, p⟩ hr.1).mp w⟩
    · rintro ⟨p, q, w⟩; exact ⟨p, (RT_cg e hr a).mpr q, (RT_cg e ⟨a, p⟩ hr.1).mpr w⟩
  cases q : bt z c <;> cases q' : bt z' c <;> simp_all)
theorem ior0_f : ∀ j : Fin 8, ior 0 (ishl 1 (j.val : Int)) = ishl 1 (j.val : Int) := by decide +kernel
theorem ior0 {j : Int} (h : 0 ≤ j ∧ j < 8) : ior 0 (ishl 1 j) = ishl 1 j := by
  have := ior0_f ⟨j.toNat, by omega⟩
  rwa [show (((⟨j.toNat, by omega⟩ : Fin 8).val : Nat) : Int) = j by show ((j.toNat : Nat) : Int) = j; omega] at this
theorem ior_z_f : ∀ s : Fin 256, ∀ j : Fin 8, ior (s.val : Int) (ishl 0 (j.val : Int)) = (s.val : Int) := by decide +kernel
theorem ior_z {s j : Int} (h1 : 0 ≤ s ∧ s < 256) (h2 : 0 ≤ j ∧ j < 8) : ior s (ishl 0 j) = s := fin2 (P := fun s j => ior s (ishl 0 j) = s) ior_z_f h1.1 h1.2 h2.1 h2.2
theorem t_Jo_reachedFrom {σ : eS} {J r n : Int} {W : Int → Int → Int} (hn : 0 ≤ n ∧ n ≤ 8) (hr : 0 ≤ r ∧ r < n) (hJ : jOf J n (fun i j => 1 ≤ W i j)) : MtI shA M_Jo_reachedFrom [vl J, vi r, vi n] σ (fun σ' z => σ' = σ ∧ (0 ≤ z ∧ z < 256) ∧ ∀ c : Int, 0 ≤ c → c < 8 → (bt z c = true ↔ RT n W r c)) := by
  refine Mt.of okM_Jo_reachedFrom (Nat.le_of_ble_eq_true rfl) (fun hk hg => ?_)
  have o0 := or8 (s := 0) (j := r) ⟨by omega, by omega⟩ ⟨hr.1, by omega⟩
  have p0 := bitP (s := 0) (j := r) ⟨by omega, by omega⟩ ⟨hr.1, by omega⟩
  have i0 : ior 0 (ishl 1 r) = ishl 1 r := ior0 ⟨hr.1, by omega⟩
  rw [i0] at o0 p0
  refine ok_iconst 0 rfl rfl (by decide) (ok_iload_n 1 rfl rfl rfl (ok_ishl 2 rfl rfl (ok_ist4 3 rfl rfl rfl (ok_iconst 4 rfl rfl (by decide) (ok_ist5 5 rfl rfl rfl ?_)))))
  refine lpO2 (fun v i : Int => [some (vl J), none, some (vi r), some (vi n), some (vi v), some (vi i)]) (fun _ _ => σ) (fun v i => 0 ≤ i ∧ i ≤ n ∧ (0 ≤ v ∧ v < 256) ∧ ∀ c : Int, 0 ≤ c → c < 8 → (bt v c = true ↔ RS n W r i.toNat c)) (fun _ i => (8 - i).toNat) ?_ _ 0 ⟨by omega, by omega, o0, fun c a b => by rw [p0, bt_sB' hr.1 a, bt_0]; exact ⟨fun q => by rcases q with q | q; cases q; exact q, fun q => Or.inr q⟩⟩
  rintro v i ⟨i1, i2, v1, v2⟩ ih
  refine ok_iload 6 rfl rfl rfl (ok_iload_n 7 rfl rfl rfl (ok_icmp_ge 8 32 rfl rfl rfl (fun h11 => ?_) (fun h11 => ?_)))
  · refine ok_iload 18 rfl rfl rfl (ok_iret 19 rfl rfl rfl ?_)
    refine ⟨_, rfl, rfl, v1, fun c a b => ?_⟩
    rw [v2 c a b, show i = n by omega]
    exact RS_n hr a
  · refine ok_iload 9 rfl rfl rfl (ok_lload_n 10 rfl rfl rfl (ok_iload 11 rfl rfl rfl (ok_iload_n 12 rfl rfl rfl (ok_callSI (M' := M_Jo_columnsOf) (as := [_, _, _]) 13 rfl rfl ml_X1_25 (t_Jo_columnsOf hn v1) ⟨Nat.le_of_ble_eq_true rfl, Nat.le_of_ble_eq_true rfl⟩ rfl (Nat.le_of_ble_eq_true rfl) (fun σ' z hz => ?_)))))
    obtain ⟨hs_, hz⟩ := hz
    rw [hs_]; clear hs_ σ'
    obtain ⟨z1, z2⟩ := cOf_op hn.2 hJ hz
    have os := ior_sp v1 z1
    refine ok_ior 14 rfl rfl (ok_ist4 15 rfl rfl rfl (ok_inc5 16 rfl rfl rfl (by first | omega | (simp [up_if]; omega) | (simp [up_if] at *; omega)) (ok_goto 17 8 rfl rfl rfl ?_)))
    refine ih _ (i + 1) ⟨by omega, by omega, os.1, fun c a b => ?_⟩ (by omega)
    rw [os.2 c a b, Bool.or_eq_true, v2 c a b, z2 c a b, show (i + 1).toNat = i.toNat + 1 by omega]
    constructor
    · rintro (q | ⟨q1, k, k1, k2, k3, k4⟩)
      · exact Or.inl q
      · exact Or.inr ⟨q1, k, k1, k2, (v2 k k1 (by omega)).mp k3, k4⟩
    · rintro (q | ⟨q1, k, k1, k2, k3, k4⟩)
      · exact Or.inl q
      · exact Or.inr ⟨q1, k, k1, k2, (v2 k k1 (by omega)).mpr k3, k4⟩
theorem t_Jo_kinOf {σ : eS} {J r n : Int} {W : Int → Int → Int} (hn : 0 ≤ n ∧ n ≤ 8) (hr : 0 ≤ r ∧ r < n) (hJ : jOf J n (fun i j => 1 ≤ W i j)) : MtI shA M_Jo_kinOf [vl J, vi r, vi n] σ (fun σ' z => σ' = σ ∧ kiS n W r z) := by
  refine Mt.of okM_Jo_kinOf (Nat.le_of_ble_eq_true rfl) (fun hk hg => ?_)
  refine ok_lload_n 0 rfl rfl rfl (ok_iload_n 1 rfl rfl rfl (ok_iload_n 2 rfl rfl rfl (ok_callSI (M' := M_Jo_reachedFrom) (as := [_, _, _]) 3 rfl rfl ml_X1_37 (t_Jo_reachedFrom hn hr hJ) ⟨Nat.le_of_ble_eq_true rfl, Nat.le_of_ble_eq_true rfl⟩ rfl (Nat.le_of_ble_eq_true rfl) (fun σ' R hR => ?_))))
  obtain ⟨hs_, hR⟩ := hR
  rw [hs_]; clear hs_ σ'
  refine ok_ist4 4 rfl rfl rfl (ok_iconst 5 rfl rfl (by decide) (ok_ist5 6 rfl rfl rfl (ok_iconst 7 rfl rfl (by decide) (ok_ist6 8 rfl rfl rfl ?_))))
  obtain ⟨R1, R2⟩ := hR
  refine lpO2 (fun v i : Int => [some (vl J), none, some (vi r), some (vi n), some (vi R), some (vi v), some (vi i)]) (fun _ _ => σ) (fun v i => 0 ≤ i ∧ i ≤ n ∧ (0 ≤ v ∧ v < 256) ∧ ∀ c : Int, 0 ≤ c → c < 8 → (bt v c = true ↔ (c < i ∧ RT n W r c ∧ RT n W c r))) (fun _ i => (8 - i).toNat) ?_ 0 0 ⟨by omega, by omega, ⟨by omega, by omega⟩, fun c a b => by rw [bt_0]; constructor; intro q; cases q; intro q; omega⟩
  rintro v i ⟨i1, i2, v1, v2⟩ ih
  have nx : ∀ v', (0 ≤ v' ∧ v' < 256) → (∀ c : Int, 0 ≤ c → c < 8 → (bt v' c = true ↔ (bt v c = true ∨ (c = i ∧ RT n W r i ∧ RT n W i r)))) → ∀ c : Int, 0 ≤ c → c < 8 → (bt v' c = true ↔ (c < i + 1 ∧ RT n W r c ∧ RT n W c r)) := fun v' _ e c a b => by
    rw [e c a b, v2 c a b]
    constructor
    · rintro (q | ⟨q, q1, q2⟩)
      · exact ⟨by omega, q.2⟩
      · subst q; exact ⟨by omega, q1, q2⟩
    · rintro ⟨q, q1, q2⟩
      by_cases w : c = i
      · subst w; exact Or.inr ⟨rfl, q1, q2⟩
      · exact Or.inl ⟨by omega, q1, q2⟩
  refine ok_iload 9 rfl rfl rfl (ok_iload_n 10 rfl rfl rfl (ok_icmp_ge 11 59 rfl rfl rfl (fun h17 => ?_) (fun h17 => ?_)))
  · refine ok_iload 35 rfl rfl rfl (ok_iret 36 rfl rfl rfl ?_)
    exact ⟨_, rfl, rfl, v1, fun c a b => by rw [v2 c a b, show i = n by omega]⟩
  · have b1 := b_nz (s := R) (j := i) R1 ⟨i1, by omega⟩
    have r2 := R2 i i1 (by omega)
    refine ok_iload 12 rfl rfl rfl (ok_iload 13 rfl rfl rfl (ok_ishr 14 rfl rfl (ok_iconst 15 rfl rfl (by decide) (ok_iand 16 rfl rfl (ok_if_eq 17 53 rfl rfl rfl (fun h27 => ?_) (fun h27 => ?_))))))
    · refine ok_inc6 33 rfl rfl rfl (by first | omega | (simp [up_if]; omega) | (simp [up_if] at *; omega)) (ok_goto 34 14 rfl rfl rfl ?_)
      refine ih _ (i + 1) ⟨by omega, by omega, v1, nx v v1 (fun c a b => ⟨Or.inl, fun q => ?_⟩)⟩ (by omega)
      rcases q with q | ⟨-, q, -⟩
      · exact q
      · have := r2.mpr q; rw [b1.2.mp (by omega)] at this; cases this
    · refine ok_lload_n 18 rfl rfl rfl (ok_iload 19 rfl rfl rfl (ok_iload_n 20 rfl rfl rfl (ok_callSI (M' := M_Jo_reachedFrom) (as := [_, _, _]) 21 rfl rfl ml_X1_37 (t_Jo_reachedFrom hn ⟨i1, by omega⟩ hJ) ⟨Nat.le_of_ble_eq_true rfl, Nat.le_of_ble_eq_true rfl⟩ rfl (Nat.le_of_ble_eq_true rfl) (fun σ' S hS => ?_))))
      obtain ⟨hs_, hS⟩ := hS
      rw [hs_]; clear hs_ σ'
      obtain ⟨S1, S2⟩ := hS
      have b2 := b_nz (s := S) (j := r) S1 ⟨hr.1, by omega⟩
      have s2 := S2 r hr.1 (by omega)
      refine ok_iload_n 22 rfl rfl rfl (ok_ishr 23 rfl rfl (ok_iconst 24 rfl rfl (by decide) (ok_iand 25 rfl rfl (ok_if_eq 26 53 rfl rfl rfl (fun h41 => ?_) (fun h41 => ?_)))))
      · refine ok_inc6 33 rfl rfl rfl (by first | omega | (simp [up_if]; omega) | (simp [up_if] at *; omega)) (ok_goto 34 14 rfl rfl rfl ?_)
        refine ih _ (i + 1) ⟨by omega, by omega, v1, nx v v1 (fun c a b => ⟨Or.inl, fun q => ?_⟩)⟩ (by omega)
        rcases q with q | ⟨-, -, q⟩
        · exact q
        · have := s2.mpr q; rw [b2.2.mp (by omega)] at this; cases this
      · refine ok_iload 27 rfl rfl rfl (ok_iconst 28 rfl rfl (by decide) (ok_iload 29 rfl rfl rfl (ok_ishl 30 rfl rfl (ok_ior 31 rfl rfl (ok_ist5 32 rfl rfl rfl (ok_inc6 33 rfl rfl rfl (by first | omega | (simp [up_if]; omega) | (simp [up_if] at *; omega)) (ok_goto 34 14 rfl rfl rfl ?_)))))))
        have ob := or8 v1 (j := i) ⟨i1, by omega⟩
        refine ih _ (i + 1) ⟨by omega, by omega, ob, nx _ ob (fun c a b => ?_)⟩ (by omega)
        rw [bitP v1 ⟨i1, by omega⟩, bt_sB' i1 a]
        constructor
        · rintro (q | q)
          · exact Or.inl q
          · exact Or.inr ⟨q, r2.mp (b1.1.mp (by omega)), s2.mp (b2.1.mp (by omega))⟩
        · rintro (q | q)
          · exact Or.inl q
          · exact Or.inr q.1
def okKn (T : Prop) (n r : Int) : Prop := T ∧ 0 ≤ r ∧ r < n
theorem t_Ev_kin {σ : eS} {s r : Int} (h : IA σ) : MtI shA M_Ev_kin [vr 0, vi s, vi r] σ (fun σ' z => σ' = σ ∧ ((¬ okKn (tabA σ s) (σ (s.toNat + 2) 1) r ∧ z = -1) ∨ (okKn (tabA σ s) (σ (s.toNat + 2) 1) r ∧ kiS (σ (s.toNat + 2) 1) (cT σ (s.toNat + 2)) r z))) := by
  refine Mt.of okM_Ev_kin (Nat.le_of_ble_eq_true rfl) (fun hk hg => ?_)
  refine ok_aload_n 0 rfl rfl rfl (ok_iload_n 1 rfl rfl rfl (ok_callVR (M' := M_Ev_slotAt) (as := [_]) 2 rfl rfl ml_X11_86 (s_Ev_slotAt) rfl rfl (Nat.le_of_ble_eq_true rfl) ⟨Nat.le_of_ble_eq_true rfl, Nat.le_of_ble_eq_true rfl⟩ rfl (Nat.le_of_ble_eq_true rfl) (fun σ' z hz => ?_)))
  obtain ⟨hs_, hz⟩ := hz
  rw [hs_]; clear hs_ σ'
  rcases hz with ⟨q, q2⟩ | ⟨q1, q2, q⟩
  · subst q
    refine ok_ast3 3 rfl rfl rfl (ok_aload_n 4 rfl rfl rfl (ok_ifnullN 5 18 rfl rfl rfl (ok_iconst 10 rfl rfl (by decide) (ok_goto 11 35 rfl rfl rfl (ok_iret 19 rfl rfl rfl ?_)))))
    exact ⟨_, rfl, rfl, Or.inl ⟨fun c => q2 ⟨c.1.1, c.1.2.1⟩, rfl⟩⟩
  · subst q
    have ht := sl_tA ⟨q1, q2⟩
    have hT := (h.2.1 _ ht).1
    refine ok_ast3 3 rfl rfl rfl (ok_aload_n 4 rfl rfl rfl (ok_ifnull 5 rfl rfl (ok_aload_n 6 rfl rfl rfl (ok_iload_n 7 rfl rfl rfl (ok_callVI (M' := M_Ta_has) (as := [_]) 8 rfl rfl ml_X11_129 (s_Ta_has ht) (sT ht) rfl (Nat.le_of_ble_eq_true rfl) ⟨Nat.le_of_ble_eq_true rfl, Nat.le_of_ble_eq_true rfl⟩ rfl (Nat.le_of_ble_eq_true rfl) (fun σ' z1 x1 => ?_))))))
    obtain ⟨hs_, x1⟩ := x1
    rw [hs_]; clear hs_ σ'
    refine ok_if_ne 9 22 rfl rfl rfl (fun h15 => ?_) (fun h15 => ?_)
    · refine ok_aload_n 12 rfl rfl rfl (ok_iconst 13 rfl rfl (by decide) (ok_callVL (M' := M_Ta_joinedBy) (as := [_]) 14 rfl rfl ml_X11_119 (t_Ta_joinedBy ht hT) (sT ht) rfl (Nat.le_of_ble_eq_true rfl) ⟨Nat.le_of_ble_eq_true rfl, Nat.le_of_ble_eq_true rfl⟩ rfl (Nat.le_of_ble_eq_true rfl) (fun σ' z2 x2 => ?_)))
      obtain ⟨hs_, x2⟩ := x2
      rw [hs_]; clear hs_ σ'
      refine ok_iload_n 15 rfl rfl rfl (ok_aload_n 16 rfl rfl rfl (ok_getI 17 rfl rfl fl_X11_103 (sT ht) rfl (Or.inl rfl) (ok_callSI (M' := M_Jo_kinOf) (as := [_, _, _]) 18 rfl rfl ml_X11_283 (t_Jo_kinOf ⟨hT.1, hT.2.1⟩ ⟨by omega, by omega⟩ x2) ⟨Nat.le_of_ble_eq_true rfl, Nat.le_of_ble_eq_true rfl⟩ rfl (Nat.le_of_ble_eq_true rfl) (fun σ' z3 x3 => ?_))))
      obtain ⟨hs_, x3⟩ := x3
      rw [hs_]; clear hs_ σ'
      refine ok_iret 19 rfl rfl rfl ?_
      exact ⟨_, rfl, rfl, Or.inr ⟨⟨⟨q1, q2, by omega⟩, by omega⟩, x3⟩⟩
    · refine ok_iconst 10 rfl rfl (by decide) (ok_goto 11 35 rfl rfl rfl (ok_iret 19 rfl rfl rfl ?_))
      exact ⟨_, rfl, rfl, Or.inl ⟨fun c => by have := c.2; omega, rfl⟩⟩
/-- a round of Warshall's way, up to a place -/
def fdW (ρ : eS) (n : Int) (W : Int → Int → Int) (k : Nat) (m : Int) : Prop := ∀ x y, 0 ≤ x → x < n → 0 ≤ y → y < n → (ρ 21 (n * x + y) = 0 ∨ ρ 21 (n * x + y) = 1) ∧ (n * x + y < m → (ρ 21 (n * x + y) = 1 ↔ WP W (k + 1) x y)) ∧ (m ≤ n * x + y → (ρ 21 (n * x + y) = 1 ↔ WP W k x y))
theorem fdW_s {ρ : eS} {n i j v : Int} {W : Int → Int → Int} {k : Nat} (hn : 1 ≤ n ∧ n ≤ 8) (hi : 0 ≤ i ∧ i < n) (hj : 0 ≤ j ∧ j < n) (h : fdW ρ n W k (n * i + j)) (hv : v = 0 ∨ v = 1) (hv2 : v = 1 ↔ WP W (k + 1) i j) : fdW (up ρ 21 (n * i + j) v) n W k (n * i + (j + 1)) := fun x y a b d e => by
  by_cases q : n * x + y = n * i + j
  · obtain ⟨q1, q2⟩ := ix_inj hn ⟨d, e⟩ hj q
    rw [q1, q2, up_same]
    exact ⟨hv, fun _ => hv2, fun w => by omega⟩
  · rw [up_nk _ _ _ _ q]
    obtain ⟨h1, h2, h3⟩ := h x y a b d e
    exact ⟨h1, fun w => h2 (by omega), fun w => h3 (by omega)⟩
theorem t_Mo_kin {σ : eS} {s r : Int} (hB : iB1 σ) : MtI shB M_Mo_kin [vr 0, vi s, vi r] σ (fun σ' z => fr rgX σ σ' ∧ ((¬ okKn (tabB σ s) (σ 1 s) r ∧ z = -1) ∨ (okKn (tabB σ s) (σ 1 s) r ∧ kiS (σ 1 s) (cB σ s) r z))) := by
  refine Mt.of okM_Mo_kin (Nat.le_of_ble_eq_true rfl) (fun hk hg => ?_)
  refine ok_aload_n 0 rfl rfl rfl (ok_iload_n 1 rfl rfl rfl (ok_callVI (M' := M_Mo_isTable) (as := [_]) 2 rfl rfl ml_X12_111 (s_Mo_isTable_r) rfl rfl (Nat.le_of_ble_eq_true rfl) ⟨Nat.le_of_ble_eq_true rfl, Nat.le_of_ble_eq_true rfl⟩ rfl (Nat.le_of_ble_eq_true rfl) (fun σ' z1 a1 => ?_)))
  obtain ⟨hs_, a1⟩ := a1
  rw [hs_]; clear hs_ σ'
  refine ok_if_eq 3 26 rfl rfl rfl (fun h5 => ?_) (fun h5 => ?_)
  · refine ok_iconst 16 rfl rfl (by decide) (ok_iret 17 rfl rfl rfl ?_)
    exact ⟨_, rfl, fr.rf, Or.inl ⟨fun c => no1 a1 h5 c.1, rfl⟩⟩
  · obtain ⟨u1, u2, u3⟩ := yes1 a1 h5
    have tn := hB.1 s u1 u2
    refine ok_iload_n 4 rfl rfl rfl (ok_i2l 5 rfl rfl (ok_lconst (w := 0) 6 rfl rfl rfl (by decide) (ok_aload_n 7 rfl rfl rfl (ok_getR 8 rfl rfl fl_X12_7 rfl rfl (ok_iload_n 9 rfl rfl rfl (ok_iald 10 rfl rfl rfl (by first | omega | (simp [up_if]; omega) | (simp [up_if] at *; omega)) (ok_iconst 11 rfl rfl (by decide) (ok_isub 12 rfl rfl (by first | omega | (simp [up_if]; omega) | (simp [up_if] at *; omega)) (ok_i2l 13 rfl rfl (ok_callSI (M' := M_Mo_isIn) (as := [_, _, _]) 14 rfl rfl ml_X12_99 (s_Mo_isIn_r) ⟨Nat.le_of_ble_eq_true rfl, Nat.le_of_ble_eq_true rfl⟩ rfl (Nat.le_of_ble_eq_true rfl) (fun σ' z2 a2 => ?_)))))))))))
    obtain ⟨hs_, a2⟩ := a2
    rw [hs_]; clear hs_ σ'
    refine ok_if_ne 15 28 rfl rfl rfl (fun h23 => ?_) (fun h23 => ?_)
    · refine ok_aload_n 18 rfl rfl rfl (ok_getR 19 rfl rfl fl_X12_7 rfl rfl (ok_iload_n 20 rfl rfl rfl (ok_iald 21 rfl rfl rfl (by first | omega | (simp [up_if]; omega) | (simp [up_if] at *; omega)) (ok_ist3 22 rfl rfl rfl (ok_iconst 23 rfl rfl (by decide) (ok_ist4 24 rfl rfl rfl ?_))))))
      have hr := yes1 a2 h23
      have hok : okKn (tabB σ s) (σ 1 s) r := ⟨⟨u1, u2, u3⟩, by omega⟩
      obtain ⟨n, en⟩ : ∃ n, n = σ 1 s := ⟨_, rfl⟩
      rw [← en] at hok ⊢
      have n1 : 1 ≤ n ∧ n ≤ 8 := by omega
      have r1 : 0 ≤ r ∧ r < n := by omega
      obtain ⟨W, eW⟩ : ∃ W, W = cB σ s := ⟨_, rfl⟩
      have E : ∀ τ : eS, fr rgX σ τ → iB1 τ ∧ τ 1 s = n ∧ cB τ s = W := fun τ g => by
        have e1 : τ 1 s = σ 1 s := g 1 s (by simp [rgX])
        have e3 : ∀ k, τ 3 k = σ 3 k := fun k => g 3 k (by simp [rgX])
        exact ⟨iB1_frS hB g (fun c k q => by simp only [rgX]; omega), by rw [e1, en], by rw [eW]; funext i j; unfold cB; rw [e1, e3]⟩
      refine lpO2 (fun (k : Int) (_ : eS) => [some (vr 0), some (vi s), some (vi r), some (vi n), some (vi k), none, none]) (fun _ ρ => ρ) (fun k ρ => 0 ≤ k ∧ k ≤ n ∧ fr rgX σ ρ ∧ fdB ρ 21 n (n * k) (WP W 0)) (fun k _ => (n - k).toNat) ?_ 0 _ ⟨by omega, by omega, fr.rf, fun x y c d e g l => by have := ix8 (n := n) (i := x) (j := y) ⟨by omega, by omega⟩ ⟨c, d⟩ ⟨e, g⟩; omega⟩
      rintro k ρ ⟨k1, k2, f, hz⟩ ih
      refine ok_iload 25 rfl rfl rfl (ok_iload_n 26 rfl rfl rfl (ok_icmp_ge 27 101 rfl rfl rfl (fun h41 => ?_) (fun h41 => ?_)))
      · refine ok_iconst 57 rfl rfl (by decide) (ok_ist4 58 rfl rfl rfl ?_)
        have hz0 : ∀ x y, 0 ≤ x → x < n → 0 ≤ y → y < n → (ρ 21 (n * x + y) = 0 ∨ ρ 21 (n * x + y) = 1) ∧ (ρ 21 (n * x + y) = 1 ↔ WP W (0 : Int).toNat x y) := fun x y c d e g => by
          rw [show k = n by omega] at hz
          exact fdB_all n1 hz ⟨c, d⟩ ⟨e, g⟩
        clear ih k1 k2 hz
        refine lpO2 (fun (k : Int) (_ : eS) => [some (vr 0), some (vi s), some (vi r), some (vi n), some (vi k), none, none]) (fun _ ρ => ρ) (fun k ρ => 0 ≤ k ∧ k ≤ n ∧ fr rgX σ ρ ∧ ∀ x y, 0 ≤ x → x < n → 0 ≤ y → y < n → (ρ 21 (n * x + y) = 0 ∨ ρ 21 (n * x + y) = 1) ∧ (ρ 21 (n * x + y) = 1 ↔ WP W k.toNat x y)) (fun k _ => (n - k).toNat) ?_ 0 _ ⟨by omega, by omega, f, hz0⟩
        clear f hz0 h41 ρ k
        rintro k ρ ⟨k1, k2, f, hz⟩ ih
        refine ok_iload 59 rfl rfl rfl (ok_iload_n 60 rfl rfl rfl (ok_icmp_ge 61 208 rfl rfl rfl (fun h107 => ?_) (fun h107 => ?_)))
        · refine ok_iconst 116 rfl rfl (by decide) (ok_ist4 117 rfl rfl rfl (ok_iconst 118 rfl rfl (by decide) (ok_ist5 119 rfl rfl rfl ?_)))
          rw [show k = n by omega] at hz
          have hq : ∀ x y, 0 ≤ x → x < n → 0 ≤ y → y < n → (ρ 21 (n * x + y) = 0 ∨ ρ 21 (n * x + y) = 1) ∧ (ρ 21 (n * x + y) = 1 ↔ RT n W x y) := fun x y c d e g => ⟨(hz x y c d e g).1, (hz x y c d e g).2.trans (WP_iff ⟨c, d⟩ ⟨e, g⟩)⟩
          clear ih k1 k2 hz
          refine lpO2 (fun (v i : Int) => [some (vr 0), some (vi s), some (vi r), some (vi n), some (vi v), some (vi i), none]) (fun _ _ => ρ) (fun v i => 0 ≤ i ∧ i ≤ n ∧ (0 ≤ v ∧ v < 256) ∧ ∀ c : Int, 0 ≤ c → c < 8 → (bt v c = true ↔ (c < i ∧ RT n W r c ∧ RT n W c r))) (fun _ i => (n - i).toNat) ?_ 0 0 ⟨by omega, by omega, ⟨by omega, by omega⟩, fun c a b => by rw [bt_0]; constructor; intro q; cases q; intro q; omega⟩
          rintro v i ⟨i1, i2, v1, v2⟩ ih2
          refine ok_iload 120 rfl rfl rfl (ok_iload_n 121 rfl rfl rfl (ok_icmp_ge 122 270 rfl rfl rfl (fun h217 => ?_) (fun h217 => ?_)))
          · refine ok_iload 152 rfl rfl rfl (ok_iret 153 rfl rfl rfl ?_)
            refine ⟨_, rfl, f, Or.inr ⟨hok, v1, fun c a b => ?_⟩⟩
            rw [v2 c a b, show i = n by omega, eW]
          · have b1 := ix8 (n := n) (i := r) (j := i) ⟨by omega, by omega⟩ ⟨by omega, by omega⟩ ⟨by omega, by omega⟩
            have b2 := ix8 (n := n) (i := i) (j := r) ⟨by omega, by omega⟩ ⟨by omega, by omega⟩ ⟨by omega, by omega⟩
            have c1 := hq r i r1.1 r1.2 i1 (by omega)
            have c2 := hq i r i1 (by omega) r1.1 r1.2
            have ob := or8 v1 (j := i) ⟨i1, by omega⟩
            have bp := bitP v1 (j := i) ⟨i1, by omega⟩
            have nx1 : RT n W r i ∧ RT n W i r → ∀ c : Int, 0 ≤ c → c < 8 → (bt (ior v (ishl 1 i)) c = true ↔ (c < i + 1 ∧ RT n W r c ∧ RT n W c r)) := fun y c a b => by
              rw [bp, bt_sB' i1 a, v2 c a b]
              constructor
              · rintro (q | q)
                · exact ⟨by omega, q.2⟩
                · subst q; exact ⟨by omega, y⟩
              · rintro ⟨q, w⟩
                by_cases u : c = i
                · exact Or.inr u
                · exact Or.inl ⟨by omega, w⟩
            have nx0 : ¬ (RT n W r i ∧ RT n W i r) → ∀ c : Int, 0 ≤ c → c < 8 → (bt (ior v (ishl 0 i)) c = true ↔ (c < i + 1 ∧ RT n W r c ∧ RT n W c r)) := fun y c a b => by
              rw [ior_z v1 ⟨i1, by omega⟩, v2 c a b]
              constructor
              · rintro q; exact ⟨by omega, q.2⟩
              · rintro ⟨q, w⟩
                by_cases u : c = i
                · subst u; exact absurd w y
                · exact ⟨by omega, w⟩
            have oz := ior_z v1 (j := i) ⟨i1, by omega⟩
            refine ok_iload 123 rfl rfl rfl (ok_aload_n 124 rfl rfl rfl (ok_getR 125 rfl rfl fl_X12_75 rfl rfl (ok_iload_n 126 rfl rfl rfl (ok_iload_n 127 rfl rfl rfl (ok_imul 128 rfl rfl (by first | omega | (simp [up_if]; omega) | (simp [up_if] at *; omega)) (ok_iload 129 rfl rfl rfl (ok_iadd 130 rfl rfl (by first | omega | (simp [up_if]; omega) | (simp [up_if] at *; omega)) (ok_zald 131 rfl rfl rfl (by first | omega | (simp [up_if]; omega) | (simp [up_if] at *; omega)) (ok_if_eq 132 254 rfl rfl rfl (fun h233 => ?_) (fun h233 => ?_))))))))))
            · refine ok_iconst 144 rfl rfl (by decide) (ok_callSI (M' := M_Mo_one) (as := [_]) 145 rfl rfl ml_X12_192 (s_Mo_one) ⟨Nat.le_of_ble_eq_true rfl, Nat.le_of_ble_eq_true rfl⟩ rfl (Nat.le_of_ble_eq_true rfl) (fun σ' z hz => ?_))
              rw [hz.1, hz.2]; clear hz z σ'
              refine ok_iload 146 rfl rfl rfl (ok_ishl 147 rfl rfl (ok_ior 148 rfl rfl (ok_ist4 149 rfl rfl rfl (ok_inc5 150 rfl rfl rfl (by first | omega | (simp [up_if]; omega) | (simp [up_if] at *; omega)) (ok_goto 151 214 rfl rfl rfl ?_)))))
              first
                | (rw [if_neg (by decide)]
                   exact ih2 _ (i + 1) ⟨by omega, by omega, ob, nx1 ⟨c1.2.mp (by omega), c2.2.mp (by omega)⟩⟩ (by omega))
                | (rw [if_pos rfl]
                   exact ih2 _ (i + 1) ⟨by omega, by omega, by rw [oz]; exact v1, nx0 (fun y => by have y1 := c1.2.mpr y.1; have y2 := c2.2.mpr y.2; omega)⟩ (by omega))
            · refine ok_aload_n 133 rfl rfl rfl (ok_getR 134 rfl rfl fl_X12_75 rfl rfl (ok_iload_n 135 rfl rfl rfl (ok_iload 136 rfl rfl rfl (ok_imul 137 rfl rfl (by first | omega | (simp [up_if]; omega) | (simp [up_if] at *; omega)) (ok_iload_n 138 rfl rfl rfl (ok_iadd 139 rfl rfl (by first | omega | (simp [up_if]; omega) | (simp [up_if] at *; omega)) (ok_zald 140 rfl rfl rfl (by first | omega | (simp [up_if]; omega) | (simp [up_if] at *; omega)) (ok_if_eq 141 254 rfl rfl rfl (fun h247 => ?_) (fun h247 => ?_)))))))))
              · refine ok_iconst 144 rfl rfl (by decide) (ok_callSI (M' := M_Mo_one) (as := [_]) 145 rfl rfl ml_X12_192 (s_Mo_one) ⟨Nat.le_of_ble_eq_true rfl, Nat.le_of_ble_eq_true rfl⟩ rfl (Nat.le_of_ble_eq_true rfl) (fun σ' z hz => ?_))
                rw [hz.1, hz.2]; clear hz z σ'
                refine ok_iload 146 rfl rfl rfl (ok_ishl 147 rfl rfl (ok_ior 148 rfl rfl (ok_ist4 149 rfl rfl rfl (ok_inc5 150 rfl rfl rfl (by first | omega | (simp [up_if]; omega) | (simp [up_if] at *; omega)) (ok_goto 151 214 rfl rfl rfl ?_)))))
                first
                  | (rw [if_neg (by decide)]
                     exact ih2 _ (i + 1) ⟨by omega, by omega, ob, nx1 ⟨c1.2.mp (by omega), c2.2.mp (by omega)⟩⟩ (by omega))
                  | (rw [if_pos rfl]
                     exact ih2 _ (i + 1) ⟨by omega, by omega, by rw [oz]; exact v1, nx0 (fun y => by have y1 := c1.2.mpr y.1; have y2 := c2.2.mpr y.2; omega)⟩ (by omega))
              · refine ok_iconst 142 rfl rfl (by decide) (ok_goto 143 255 rfl rfl rfl (ok_callSI (M' := M_Mo_one) (as := [_]) 145 rfl rfl ml_X12_192 (s_Mo_one) ⟨Nat.le_of_ble_eq_true rfl, Nat.le_of_ble_eq_true rfl⟩ rfl (Nat.le_of_ble_eq_true rfl) (fun σ' z hz => ?_)))
                rw [hz.1, hz.2]; clear hz z σ'
                refine ok_iload 146 rfl rfl rfl (ok_ishl 147 rfl rfl (ok_ior 148 rfl rfl (ok_ist4 149 rfl rfl rfl (ok_inc5 150 rfl rfl rfl (by first | omega | (simp [up_if]; omega) | (simp [up_if] at *; omega)) (ok_goto 151 214 rfl rfl rfl ?_)))))
                first
                  | (rw [if_neg (by decide)]
                     exact ih2 _ (i + 1) ⟨by omega, by omega, ob, nx1 ⟨c1.2.mp (by omega), c2.2.mp (by omega)⟩⟩ (by omega))
                  | (rw [if_pos rfl]
                     exact ih2 _ (i + 1) ⟨by omega, by omega, by rw [oz]; exact v1, nx0 (fun y => by have y1 := c1.2.mpr y.1; have y2 := c2.2.mpr y.2; omega)⟩ (by omega))
        · refine ok_iconst 62 rfl rfl (by decide) (ok_ist5 63 rfl rfl rfl ?_)
          have kn : k < n := by omega
          have ek : ((k.toNat : Nat) : Int) = k := Int.toNat_of_nonneg k1
          refine lpO2 (fun (i : Int) (_ : eS) => [some (vr 0), some (vi s), some (vi r), some (vi n), some (vi k), some (vi i), none]) (fun _ ρ => ρ) (fun i ρ => 0 ≤ i ∧ i ≤ n ∧ fr rgX σ ρ ∧ fdW ρ n W k.toNat (n * i)) (fun i _ => (n - i).toNat) ?_ 0 _ ⟨by omega, by omega, f, fun x y c d e g => by have := ix8 (n := n) (i := x) (j := y) ⟨by omega, by omega⟩ ⟨c, d⟩ ⟨e, g⟩; exact ⟨(hz x y c d e g).1, fun w => by omega, fun _ => (hz x y c d e g).2⟩⟩
          clear f hz ρ
          rintro i ρ ⟨i1, i2, f, hz⟩ ih2
          refine ok_iload 64 rfl rfl rfl (ok_iload_n 65 rfl rfl rfl (ok_icmp_ge 66 202 rfl rfl rfl (fun h116 => ?_) (fun h116 => ?_)))
          · refine ok_inc4 114 rfl rfl rfl (by first | omega | (simp [up_if]; omega) | (simp [up_if] at *; omega)) (ok_goto 115 104 rfl rfl rfl ?_)
            refine ok_fg [some (vr 0), some (vi s), some (vi r), some (vi n), some (vi (k + 1)), none, none] ⟨rfl, rfl, rfl, rfl, rfl, trivial⟩ (ih (k + 1) _ ⟨by omega, by omega, f, fun x y c d e g => ?_⟩ (by omega))
            rw [show i = n by omega] at hz
            have bx := ix8 (n := n) (i := x) (j := y) ⟨by omega, by omega⟩ ⟨c, d⟩ ⟨e, g⟩
            obtain ⟨h1, h2, -⟩ := hz x y c d e g
            rw [show (k + 1).toNat = k.toNat + 1 by omega]
            exact ⟨h1, h2 (by omega)⟩
          · refine ok_iconst 67 rfl rfl (by decide) (ok_ist6 68 rfl rfl rfl ?_)
            refine lpO2 (fun (j : Int) (_ : eS) => [some (vr 0), some (vi s), some (vi r), some (vi n), some (vi k), some (vi i), some (vi j)]) (fun _ ρ => ρ) (fun j ρ => 0 ≤ j ∧ j ≤ n ∧ fr rgX σ ρ ∧ fdW ρ n W k.toNat (n * i + j)) (fun j _ => (n - j).toNat) ?_ 0 _ ⟨by omega, by omega, f, by rw [Int.add_zero]; exact hz⟩
            clear f hz ρ
            rintro j ρ ⟨j1, j2, f, hz⟩ ih3
            refine ok_iload 69 rfl rfl rfl (ok_iload_n 70 rfl rfl rfl (ok_icmp_ge 71 196 rfl rfl rfl (fun h125 => ?_) (fun h125 => ?_)))
            · refine ok_inc5 112 rfl rfl rfl (by first | omega | (simp [up_if]; omega) | (simp [up_if] at *; omega)) (ok_goto 113 113 rfl rfl rfl ?_)
              exact ok_fg [some (vr 0), some (vi s), some (vi r), some (vi n), some (vi k), some (vi (i + 1)), none] ⟨rfl, rfl, rfl, rfl, rfl, rfl, trivial⟩ (ih2 (i + 1) _ ⟨by omega, by omega, f, by rw [show j = n by omega] at hz; rw [Int.mul_add, Int.mul_one]; exact hz⟩ (by omega))
            · have b1 := ix8 (n := n) (i := i) (j := j) ⟨by omega, by omega⟩ ⟨by omega, by omega⟩ ⟨by omega, by omega⟩
              have b2 := ix8 (n := n) (i := i) (j := k) ⟨by omega, by omega⟩ ⟨by omega, by omega⟩ ⟨by omega, by omega⟩
              have b3 := ix8 (n := n) (i := k) (j := j) ⟨by omega, by omega⟩ ⟨by omega, by omega⟩ ⟨by omega, by omega⟩
              obtain ⟨h1, -, h2⟩ := hz i j i1 (by omega) j1 (by omega)
              have h2 := h2 (Int.le_refl _)
              obtain ⟨g1, g2, g3⟩ := hz i k i1 (by omega) k1 kn
              have g4 : ρ 21 (n * i + k) = 1 ↔ WP W k.toNat i k := by
                rcases (by omega : n * i + k < n * i + j ∨ n * i + j ≤ n * i + k) with y | y
                · have x := g2 y; have w := WP_k1 (W := W) (k := k.toNat) (i := i); rw [ek] at w; exact x.trans w
                · exact g3 y
              obtain ⟨d1, d2, d3⟩ := hz k j k1 kn j1 (by omega)
              have d4 : ρ 21 (n * k + j) = 1 ↔ WP W k.toNat k j := by
                rcases (by omega : n * k + j < n * i + j ∨ n * i + j ≤ n * k + j) with y | y
                · have x := d2 y; have w := WP_k2 (W := W) (k := k.toNat) (j := j); rw [ek] at w; exact x.trans w
                · exact d3 y
              have st : WP W (k.toNat + 1) i j ↔ (WP W k.toNat i j ∨ (WP W k.toNat i k ∧ WP W k.toNat k j)) := by show (WP W k.toNat i j ∨ (WP W k.toNat i ((k.toNat : Nat) : Int) ∧ WP W k.toNat ((k.toNat : Nat) : Int) j)) ↔ _; rw [ek]
              refine ok_aload_n 72 rfl rfl rfl (ok_getR 73 rfl rfl fl_X12_75 rfl rfl (ok_iload_n 74 rfl rfl rfl (ok_iload 75 rfl rfl rfl (ok_imul 76 rfl rfl (by first | omega | (simp [up_if]; omega) | (simp [up_if] at *; omega)) (ok_iload 77 rfl rfl rfl (ok_iadd 78 rfl rfl (by first | omega | (simp [up_if]; omega) | (simp [up_if] at *; omega)) (ok_aload_n 79 rfl rfl rfl (ok_getR 80 rfl rfl fl_X12_75 rfl rfl (ok_iload_n 81 rfl rfl rfl (ok_iload 82 rfl rfl rfl (ok_imul 83 rfl rfl (by first | omega | (simp [up_if]; omega) | (simp [up_if] at *; omega)) (ok_iload 84 rfl rfl rfl (ok_iadd 85 rfl rfl (by first | omega | (simp [up_if]; omega) | (simp [up_if] at *; omega)) (ok_zald 86 rfl rfl rfl (by first | omega | (simp [up_if]; omega) | (simp [up_if] at *; omega)) (ok_if_ne 87 184 rfl rfl rfl (fun h151 => ?_) (fun h151 => ?_))))))))))))))))
              · refine ok_iconst 106 rfl rfl (by decide) (ok_goto 107 189 rfl rfl rfl (ok_zast 109 rfl rfl rfl (by first | omega | (simp [up_if]; omega) | (simp [up_if] at *; omega)) (by first | omega | (simp [up_if]; omega) | (simp [up_if] at *; omega)) (ok_inc6 110 rfl rfl rfl (by first | omega | (simp [up_if]; omega) | (simp [up_if] at *; omega)) (ok_goto 111 122 rfl rfl rfl ?_))))
                refine ih3 (j + 1) _ ⟨by omega, by omega, fr_up f (by simp [rgX]), fdW_s n1 ⟨i1, by omega⟩ ⟨j1, by omega⟩ hz (by omega) ?_⟩ (by omega)
                rw [st, ← h2, ← g4, ← d4]
                omega
              · refine ok_aload_n 88 rfl rfl rfl (ok_getR 89 rfl rfl fl_X12_75 rfl rfl (ok_iload_n 90 rfl rfl rfl (ok_iload 91 rfl rfl rfl (ok_imul 92 rfl rfl (by first | omega | (simp [up_if]; omega) | (simp [up_if] at *; omega)) (ok_iload 93 rfl rfl rfl (ok_iadd 94 rfl rfl (by first | omega | (simp [up_if]; omega) | (simp [up_if] at *; omega)) (ok_zald 95 rfl rfl rfl (by first | omega | (simp [up_if]; omega) | (simp [up_if] at *; omega)) (ok_if_eq 96 188 rfl rfl rfl (fun h166 => ?_) (fun h166 => ?_)))))))))
                · refine ok_iconst 108 rfl rfl (by decide) (ok_zast 109 rfl rfl rfl (by first | omega | (simp [up_if]; omega) | (simp [up_if] at *; omega)) (by first | omega | (simp [up_if]; omega) | (simp [up_if] at *; omega)) (ok_inc6 110 rfl rfl rfl (by first | omega | (simp [up_if]; omega) | (simp [up_if] at *; omega)) (ok_goto 111 122 rfl rfl rfl ?_)))
                  refine ih3 (j + 1) _ ⟨by omega, by omega, fr_up f (by simp [rgX]), fdW_s n1 ⟨i1, by omega⟩ ⟨j1, by omega⟩ hz (by omega) ?_⟩ (by omega)
                  rw [st, ← h2, ← g4, ← d4]
                  omega
                · refine ok_aload_n 97 rfl rfl rfl (ok_getR 98 rfl rfl fl_X12_75 rfl rfl (ok_iload_n 99 rfl rfl rfl (ok_iload 100 rfl rfl rfl (ok_imul 101 rfl rfl (by first | omega | (simp [up_if]; omega) | (simp [up_if] at *; omega)) (ok_iload 102 rfl rfl rfl (ok_iadd 103 rfl rfl (by first | omega | (simp [up_if]; omega) | (simp [up_if] at *; omega)) (ok_zald 104 rfl rfl rfl (by first | omega | (simp [up_if]; omega) | (simp [up_if] at *; omega)) (ok_if_eq 105 188 rfl rfl rfl (fun h181 => ?_) (fun h181 => ?_)))))))))
                  · refine ok_iconst 108 rfl rfl (by decide) (ok_zast 109 rfl rfl rfl (by first | omega | (simp [up_if]; omega) | (simp [up_if] at *; omega)) (by first | omega | (simp [up_if]; omega) | (simp [up_if] at *; omega)) (ok_inc6 110 rfl rfl rfl (by first | omega | (simp [up_if]; omega) | (simp [up_if] at *; omega)) (ok_goto 111 122 rfl rfl rfl ?_)))
                    refine ih3 (j + 1) _ ⟨by omega, by omega, fr_up f (by simp [rgX]), fdW_s n1 ⟨i1, by omega⟩ ⟨j1, by omega⟩ hz (by omega) ?_⟩ (by omega)
                    rw [st, ← h2, ← g4, ← d4]
                    omega
                  · refine ok_iconst 106 rfl rfl (by decide) (ok_goto 107 189 rfl rfl rfl (ok_zast 109 rfl rfl rfl (by first | omega | (simp [up_if]; omega) | (simp [up_if] at *; omega)) (by first | omega | (simp [up_if]; omega) | (simp [up_if] at *; omega)) (ok_inc6 110 rfl rfl rfl (by first | omega | (simp [up_if]; omega) | (simp [up_if] at *; omega)) (ok_goto 111 122 rfl rfl rfl ?_))))
                    refine ih3 (j + 1) _ ⟨by omega, by omega, fr_up f (by simp [rgX]), fdW_s n1 ⟨i1, by omega⟩ ⟨j1, by omega⟩ hz (by omega) ?_⟩ (by omega)
                    rw [st, ← h2, ← g4, ← d4]
                    omega
      · refine ok_iconst 28 rfl rfl (by decide) (ok_ist5 29 rfl rfl rfl ?_)
        refine lpO2 (fun (j : Int) (_ : eS) => [some (vr 0), some (vi s), some (vi r), some (vi n), some (vi k), some (vi j), none]) (fun _ ρ => ρ) (fun j ρ => 0 ≤ j ∧ j ≤ n ∧ fr rgX σ ρ ∧ fdB ρ 21 n (n * k + j) (WP W 0)) (fun j _ => (n - j).toNat) ?_ 0 _ ⟨by omega, by omega, f, by rw [Int.add_zero]; exact hz⟩
        clear f hz ρ
        rintro j ρ ⟨j1, j2, f, hz⟩ ih2
        obtain ⟨eb, e1, ec⟩ := E ρ f
        refine ok_iload 30 rfl rfl rfl (ok_iload_n 31 rfl rfl rfl (ok_icmp_ge 32 95 rfl rfl rfl (fun h50 => ?_) (fun h50 => ?_)))
        · refine ok_inc4 55 rfl rfl rfl (by first | omega | (simp [up_if]; omega) | (simp [up_if] at *; omega)) (ok_goto 56 38 rfl rfl rfl ?_)
          exact ok_fg [some (vr 0), some (vi s), some (vi r), some (vi n), some (vi (k + 1)), none, none] ⟨rfl, rfl, rfl, rfl, rfl, trivial⟩ (ih (k + 1) _ ⟨by omega, by omega, f, fdB_r (by rw [show j = n by omega] at hz; exact hz)⟩ (by omega))
        · have bm := ix8 (n := n) (i := k) (j := j) ⟨by omega, by omega⟩ ⟨by omega, by omega⟩ ⟨by omega, by omega⟩
          refine ok_aload_n 33 rfl rfl rfl (ok_getR 34 rfl rfl fl_X12_75 rfl rfl (ok_iload_n 35 rfl rfl rfl (ok_iload 36 rfl rfl rfl (ok_imul 37 rfl rfl (by first | omega | (simp [up_if]; omega) | (simp [up_if] at *; omega)) (ok_iload 38 rfl rfl rfl (ok_iadd 39 rfl rfl (by first | omega | (simp [up_if]; omega) | (simp [up_if] at *; omega)) (ok_iload 40 rfl rfl rfl (ok_iload 41 rfl rfl rfl (ok_icmp_eq 42 83 rfl rfl rfl (fun h68 => ?_) (fun h68 => ?_))))))))))
          · refine ok_iconst 49 rfl rfl (by decide) (ok_goto 50 88 rfl rfl rfl (ok_zast 52 rfl rfl rfl (by first | omega | (simp [up_if]; omega) | (simp [up_if] at *; omega)) (by first | omega | (simp [up_if]; omega) | (simp [up_if] at *; omega)) (ok_inc5 53 rfl rfl rfl (by first | omega | (simp [up_if]; omega) | (simp [up_if] at *; omega)) (ok_goto 54 47 rfl rfl rfl ?_))))
            refine ih2 (j + 1) _ ⟨by omega, by omega, fr_up f (by simp [rgX]), fdB_s n1 ⟨by omega, by omega⟩ ⟨by omega, by omega⟩ hz (by omega) ?_⟩ (by omega)
            first
              | exact ⟨fun _ => Or.inl (by omega), fun _ => rfl⟩
              | exact ⟨fun _ => Or.inr (by omega), fun _ => rfl⟩
              | exact ⟨fun y => absurd y (by decide), fun y => by rcases y with y | y <;> omega⟩
          · refine ok_aload_n 43 rfl rfl rfl (ok_iload_n 44 rfl rfl rfl (ok_iload 45 rfl rfl rfl (ok_iload 46 rfl rfl rfl (ok_callVI (M' := M_Mo_at) (as := [_, _, _]) 47 rfl rfl ml_X12_107 (s_Mo_at eb ⟨u1, u2⟩ ⟨by omega, by omega⟩ ⟨by omega, by omega⟩) rfl rfl (Nat.le_of_ble_eq_true rfl) ⟨Nat.le_of_ble_eq_true rfl, Nat.le_of_ble_eq_true rfl⟩ rfl (Nat.le_of_ble_eq_true rfl) (fun σ' z hz2 => ?_)))))
            rw [hz2.1, hz2.2, ec]; clear hz2 z σ'
            refine ok_if_le 48 87 rfl rfl rfl (fun h80 => ?_) (fun h80 => ?_)
            · refine ok_iconst 51 rfl rfl (by decide) (ok_zast 52 rfl rfl rfl (by first | omega | (simp [up_if]; omega) | (simp [up_if] at *; omega)) (by first | omega | (simp [up_if]; omega) | (simp [up_if] at *; omega)) (ok_inc5 53 rfl rfl rfl (by first | omega | (simp [up_if]; omega) | (simp [up_if] at *; omega)) (ok_goto 54 47 rfl rfl rfl ?_)))
              refine ih2 (j + 1) _ ⟨by omega, by omega, fr_up f (by simp [rgX]), fdB_s n1 ⟨by omega, by omega⟩ ⟨by omega, by omega⟩ hz (by omega) ?_⟩ (by omega)
              first
                | exact ⟨fun _ => Or.inl (by omega), fun _ => rfl⟩
                | exact ⟨fun _ => Or.inr (by omega), fun _ => rfl⟩
                | exact ⟨fun y => absurd y (by decide), fun y => by rcases y with y | y <;> omega⟩
            · refine ok_iconst 49 rfl rfl (by decide) (ok_goto 50 88 rfl rfl rfl (ok_zast 52 rfl rfl rfl (by first | omega | (simp [up_if]; omega) | (simp [up_if] at *; omega)) (by first | omega | (simp [up_if]; omega) | (simp [up_if] at *; omega)) (ok_inc5 53 rfl rfl rfl (by first | omega | (simp [up_if]; omega) | (simp [up_if] at *; omega)) (ok_goto 54 47 rfl rfl rfl ?_))))
              refine ih2 (j + 1) _ ⟨by omega, by omega, fr_up f (by simp [rgX]), fdB_s n1 ⟨by omega, by omega⟩ ⟨by omega, by omega⟩ hz (by omega) ?_⟩ (by omega)
              first
                | exact ⟨fun _ => Or.inl (by omega), fun _ => rfl⟩
                | exact ⟨fun _ => Or.inr (by omega), fun _ => rfl⟩
                | exact ⟨fun y => absurd y (by decide), fun y => by rcases y with y | y <;> omega⟩
    · refine ok_iconst 16 rfl rfl (by decide) (ok_iret 17 rfl rfl rfl ?_)
      exact ⟨_, rfl, fr.rf, Or.inl ⟨fun c => no1 a2 h23 (by have := c.2; omega), rfl⟩⟩
end
section
/-! GROUPS: rows that hang together, counted by rounds and by labels -/
noncomputable def ind (p : Prop) : Int := @ite Int p (Classical.propDecidable _) 1 0
theorem ind_t {p : Prop} (h : p) : ind p = 1 := by unfold ind; rw [if_pos h]
theorem ind_f {p : Prop} (h : ¬ p) : ind p = 0 := by unfold ind; rw [if_neg h]
noncomputable def W2 (n : Int) (W : Int → Int → Int) (r k : Int) : Int := ind (∃ j, 0 ≤ j ∧ j < n ∧ 1 ≤ W r j ∧ 1 ≤ W k j)
end
section
/-! SOUGHT: words of four rules, purely -/
def RC (n : Int) (W0 : Int → Int → Int) (rs : Nat → Int) : Nat → (Int → Int → Int) → Int → Prop
  | 0, W, P => ag n W W0 ∧ P = 0
  | j + 1, W, P => ∃ W1 P1, RC n W0 rs j W1 P1 ∧ ((nil0 n W1 ∧ ag n W W1 ∧ P = P1) ∨ (∃ ch w, stp n (rs j) W1 W ch w ∧ P = P1 + 1))
def NW (n : Int) (W0 : Int → Int → Int) (rs : Nat → Int) (z : Int) : Prop := ∃ j W, RC n W0 rs j W z ∧ nil0 n W
section K19
variable {n : Int} {W0 V0 : Int → Int → Int} {rs rs' : Nat → Int}
end K19
def rwd (w : Int) (k : Nat) : Int := if k = 0 then w / 64 % 4 else if k = 1 then w / 16 % 4 else if k = 2 then w / 4 % 4 else w % 4
def BSx (n : Int) (W0 : Int → Int → Int) (x p r : Int) : Prop := (x = 0 ∧ p = 65) ∨ ((0 ≤ r ∧ r < x) ∧ NW n W0 (rwd r) p ∧ p ≤ 64 ∧ ∀ w z, 0 ≤ w → w < x → NW n W0 (rwd w) z → p < z ∨ (p = z ∧ r ≤ w))
section K19b
variable {n x p r : Int} {W0 : Int → Int → Int}
end K19b
end
section
/-! SOUGHT, the class: what was found is kept, and right -/
def KN (σ : eS) : Prop := ∀ s : Int, 0 ≤ s → s < 4 → σ (s.toNat + 2) 6 ≠ 0 → evA σ s ∧ σ (s.toNat + 2) 1 ≤ 4 ∧ BSx (σ (s.toNat + 2) 1) (cT σ (s.toNat + 2)) 256 (σ (s.toNat + 2) 7) (σ (s.toNat + 2) 8)
end
section
/-! ROUNDING: flows in a ring of 18 nodes, purely -/
theorem sm_ad (f g : Int → Int) : ∀ n : Nat, sm (fun k => f k + g k) n = sm f n + sm g n
  | 0 => rfl
  | n + 1 => by
    have a := sm_s (fun k => f k + g k) (j := (n : Int)) (by omega)
    have b := sm_s f (j := (n : Int)) (by omega)
    have c := sm_s g (j := (n : Int)) (by omega)
    rw [show ((n : Int) + 1).toNat = n + 1 by omega, show ((n : Int)).toNat = n by omega] at a b c
    rw [a, b, c, sm_ad f g n]
    omega
theorem sm_ml (c : Int) (f : Int → Int) : ∀ n : Nat, sm (fun k => c * f k) n = c * sm f n
  | 0 => (Int.mul_zero c).symm
  | n + 1 => by
    have a := sm_s (fun k => c * f k) (j := (n : Int)) (by omega)
    have b := sm_s f (j := (n : Int)) (by omega)
    rw [show ((n : Int) + 1).toNat = n + 1 by omega, show ((n : Int)).toNat = n by omega] at a b
    rw [a, b, sm_ml c f n, Int.mul_add]
theorem sm_z (n : Nat) : sm (fun _ => (0 : Int)) n = 0 := by
  have := sm_bd (f := fun _ => (0 : Int)) (B := 0) (Int.le_refl _) (n := n) (fun k _ _ => ⟨Int.le_refl _, Int.le_refl _⟩)
  omega
theorem sm_sw (f : Int → Int → Int) (n : Nat) : ∀ m : Nat, sm (fun i => sm (fun j => f i j) n) m = sm (fun j => sm (fun i => f i j) m) n
  | 0 => (sm_z n).symm
  | m + 1 => by
    have a := sm_s (fun i => sm (fun j => f i j) n) (j := (m : Int)) (by omega)
    rw [show ((m : Int) + 1).toNat = m + 1 by omega, show ((m : Int)).toNat = m by omega] at a
    rw [a, sm_sw f n m, ← sm_ad]
    refine sm_cg (fun j _ _ => ?_)
    have b := sm_s (fun i => f i j) (j := (m : Int)) (by omega)
    rw [show ((m : Int) + 1).toNat = m + 1 by omega, show ((m : Int)).toNat = m by omega] at b
    exact b.symm
theorem sm_rg {a n : Int} (g : Int → Int) (N : Nat) (ha : 0 ≤ a) (hn : 0 ≤ n) (h : a + n ≤ N) : sm (fun w => if a ≤ w ∧ w < a + n then g (w - a) else 0) N = sm g n.toNat := by
  obtain ⟨A, eA⟩ : ∃ A : Nat, a = (A : Int) := ⟨a.toNat, by omega⟩
  obtain ⟨M, eM⟩ : ∃ M : Nat, n = (M : Int) := ⟨n.toNat, by omega⟩
  subst eA; subst eM
  have e1 := sm_add (fun w => if (A : Int) ≤ w ∧ w < (A : Int) + (M : Int) then g (w - (A : Int)) else 0) A (M + (N - A - M))
  rw [show A + (M + (N - A - M)) = N by omega] at e1
  have e2 := sm_add (fun k => (fun w => if (A : Int) ≤ w ∧ w < (A : Int) + (M : Int) then g (w - (A : Int)) else 0) ((A : Int) + k)) M (N - A - M)
  rw [e1, e2, sm_cg (g := fun _ => (0 : Int)) (n := A) (fun k p q => by (try dsimp only); rw [if_neg (by omega)]), sm_z, Int.zero_add]
  have e3 : sm (fun k => (fun k => (fun w => if (A : Int) ≤ w ∧ w < (A : Int) + (M : Int) then g (w - (A : Int)) else 0) ((A : Int) + k)) ((M : Int) + k)) (N - A - M) = 0 := by
    rw [sm_cg (g := fun _ => (0 : Int)) (fun k p q => by (try dsimp only); rw [if_neg (by omega)]), sm_z]
  rw [e3, Int.add_zero, show ((M : Int)).toNat = M by omega]
  exact sm_cg (fun k p q => by (try dsimp only); rw [if_pos (by omega), show (A : Int) + k - (A : Int) = k by omega])
/-- what flows out of a node, less what flows in -/
def exN (x : Int → Int → Int) (v : Int) : Int := sm (fun w => x v w) 18 - sm (fun w => x w v) 18
def cirN (x : Int → Int → Int) : Prop := ∀ v, 0 ≤ v → v < 18 → exN x v = 0
theorem cir_cut {x : Int → Int → Int} (hx : cirN x) (s : Int → Int) : sm (fun v => sm (fun w => (s v - s w) * x v w) 18) 18 = 0 := by
  have e1 : sm (fun v => sm (fun w => (s v - s w) * x v w) 18) 18 = sm (fun v => sm (fun w => s v * x v w) 18 - sm (fun w => s w * x v w) 18) 18 := sm_cg (fun v _ _ => by
    rw [← sm_sub]
    exact sm_cg (fun w _ _ => Int.sub_mul _ _ _))
  rw [e1, sm_sub, sm_sw (fun v w => s w * x v w), ← sm_sub]
  rw [sm_cg (g := fun _ => (0 : Int)) (fun v a b => ?_), sm_z]
  rw [sm_ml, sm_ml, ← Int.mul_sub]
  have := hx v a (by omega)
  unfold exN at this
  rw [this, Int.mul_zero]
theorem cutN {x y : Int → Int → Int} {S : Int → Prop} (hx : cirN x) (hy : cirN y) (h1 : ∀ v w, 0 ≤ v → v < 18 → 0 ≤ w → w < 18 → S v → ¬ S w → y v w ≤ x v w) (h2 : ∀ v w, 0 ≤ v → v < 18 → 0 ≤ w → w < 18 → ¬ S v → S w → x v w ≤ y v w) {v w : Int} (hv : 0 ≤ v ∧ v < 18) (hw : 0 ≤ w ∧ w < 18) (hs : (S v ∧ ¬ S w) ∨ (¬ S v ∧ S w)) : x v w = y v w := by
  have t0 : sm (fun v => sm (fun w => (ind (S v) - ind (S w)) * (x v w - y v w)) 18) 18 = 0 := by
    have a := cir_cut hx (fun v => ind (S v))
    have b := cir_cut hy (fun v => ind (S v))
    have e : sm (fun v => sm (fun w => (ind (S v) - ind (S w)) * (x v w - y v w)) 18) 18 = sm (fun v => sm (fun w => (ind (S v) - ind (S w)) * x v w) 18 - sm (fun w => (ind (S v) - ind (S w)) * y v w) 18) 18 := sm_cg (fun v _ _ => by
      rw [← sm_sub]
      exact sm_cg (fun w _ _ => Int.mul_sub _ _ _))
    rw [e, sm_sub, a, b]; rfl
  have pos : ∀ v w, 0 ≤ v → v < 18 → 0 ≤ w → w < 18 → 0 ≤ (ind (S v) - ind (S w)) * (x v w - y v w) := fun v w a b c d => by
    by_cases p : S v <;> by_cases q : S w
    · rw [ind_t p, ind_t q, Int.sub_self, Int.zero_mul]; exact Int.le_refl _
    · rw [ind_t p, ind_f q, Int.sub_zero, Int.one_mul]; have := h1 v w a b c d p q; omega
    · rw [ind_f p, ind_t q]; have := h2 v w a b c d p q; omega
    · rw [ind_f p, ind_f q, Int.sub_self, Int.zero_mul]; exact Int.le_refl _
  have r1 := sm_le (f := fun v => sm (fun w => (ind (S v) - ind (S w)) * (x v w - y v w)) 18) (n := 18) (fun k a b => sm_nx (fun w c d => pos k w a (by omega) c (by omega))) v hv.1 (by omega)
  have r2 := sm_le (f := fun w => (ind (S v) - ind (S w)) * (x v w - y v w)) (n := 18) (fun w c d => pos v w hv.1 hv.2 c (by omega)) w hw.1 (by omega)
  have r3 := pos v w hv.1 hv.2 hw.1 hw.2
  try dsimp only at r1 r2
  rcases hs with ⟨p, q⟩ | ⟨p, q⟩
  · have e3 : (ind (S v) - ind (S w)) * (x v w - y v w) = x v w - y v w := by rw [ind_t p, ind_f q, Int.sub_zero, Int.one_mul]
    omega
  · have e3 : (ind (S v) - ind (S w)) * (x v w - y v w) = -(x v w - y v w) := by rw [ind_f p, ind_t q]; omega
    omega
/-- the ring's channels -/
def riF (n : Int) (src : Int → Int) (mid : Int → Int → Int) (snk : Int → Int) (all : Int) (v w : Int) : Int :=
  if v = 0 ∧ 1 ≤ w ∧ w < 1 + n then src (w - 1) else if (1 ≤ v ∧ v < 1 + n) ∧ 9 ≤ w ∧ w < 9 + n then mid (v - 1) (w - 9) else if (9 ≤ v ∧ v < 9 + n) ∧ w = 17 then snk (v - 9) else if v = 17 ∧ w = 0 then all else 0
section K23
variable {n all : Int} {src snk : Int → Int} {mid : Int → Int → Int}
theorem ri_out (hn : 0 ≤ n ∧ n ≤ 8) {v : Int} : sm (fun w => riF n src mid snk all v w) 18 = if v = 0 then sm src n.toNat else if 1 ≤ v ∧ v < 1 + n then sm (fun j => mid (v - 1) j) n.toNat else if 9 ≤ v ∧ v < 9 + n then snk (v - 9) else if v = 17 then all else 0 := by
  by_cases c0 : v = 0
  · rw [if_pos c0, ← sm_rg (a := 1) src 18 (by omega) hn.1 (by omega)]
    refine sm_cg (fun w a b => ?_)
    unfold riF
    by_cases q : 1 ≤ w ∧ w < 1 + n
    · rw [if_pos ⟨c0, q⟩, if_pos q]
    · rw [if_neg (by omega), if_neg (by omega), if_neg (by omega), if_neg (by omega), if_neg q]
  · rw [if_neg c0]
    by_cases c1 : 1 ≤ v ∧ v < 1 + n
    · rw [if_pos c1, ← sm_rg (a := 9) (fun j => mid (v - 1) j) 18 (by omega) hn.1 (by omega)]
      refine sm_cg (fun w a b => ?_)
      unfold riF
      by_cases q : 9 ≤ w ∧ w < 9 + n
      · rw [if_neg (by omega), if_pos ⟨c1, q⟩, if_pos q]
      · rw [if_neg (by omega), if_neg (by omega), if_neg (by omega), if_neg (by omega), if_neg q]
    · rw [if_neg c1]
      by_cases c2 : 9 ≤ v ∧ v < 9 + n
      · rw [if_pos c2, ← sm_one (x := 17) (snk (v - 9)) (n := 18) (by omega) (by omega)]
        refine sm_cg (fun w a b => ?_)
        unfold riF
        by_cases q : w = 17
        · rw [if_neg (by omega), if_neg (by omega), if_pos ⟨c2, q⟩, if_pos q]
        · rw [if_neg (by omega), if_neg (by omega), if_neg (by omega), if_neg (by omega), if_neg q]
      · rw [if_neg c2]
        by_cases c3 : v = 17
        · rw [if_pos c3]
          refine Eq.trans (sm_cg (fun w a b => ?_)) (sm_one (x := 0) all (n := 18) (by omega) (by omega))
          (try dsimp only)
          unfold riF
          by_cases q : w = 0
          · rw [if_neg (by omega), if_neg (by omega), if_neg (by omega), if_pos ⟨c3, q⟩, if_pos q]
          · rw [if_neg (by omega), if_neg (by omega), if_neg (by omega), if_neg (by omega), if_neg q]
        · rw [if_neg c3, ← sm_z 18]
          refine sm_cg (fun w a b => ?_)
          unfold riF
          rw [if_neg (by omega), if_neg (by omega), if_neg (by omega), if_neg (by omega)]
theorem ri_in (hn : 0 ≤ n ∧ n ≤ 8) {v : Int} : sm (fun w => riF n src mid snk all w v) 18 = if v = 0 then all else if 1 ≤ v ∧ v < 1 + n then src (v - 1) else if 9 ≤ v ∧ v < 9 + n then sm (fun i => mid i (v - 9)) n.toNat else if v = 17 then sm snk n.toNat else 0 := by
  by_cases c0 : v = 0
  · rw [if_pos c0]
    refine Eq.trans (sm_cg (fun w a b => ?_)) (sm_one (x := 17) all (n := 18) (by omega) (by omega))
    (try dsimp only)
    unfold riF
    by_cases q : w = 17
    · rw [if_neg (by omega), if_neg (by omega), if_neg (by omega), if_pos ⟨q, c0⟩, if_pos q]
    · rw [if_neg (by omega), if_neg (by omega), if_neg (by omega), if_neg (by omega), if_neg q]
  · rw [if_neg c0]
    by_cases c1 : 1 ≤ v ∧ v < 1 + n
    · rw [if_pos c1, ← sm_one (x := 0) (src (v - 1)) (n := 18) (by omega) (by omega)]
      refine sm_cg (fun w a b => ?_)
      unfold riF
      by_cases q : w = 0
      · rw [if_pos ⟨q, c1⟩, if_pos q]
      · rw [if_neg (by omega), if_neg (by omega), if_neg (by omega), if_neg (by omega), if_neg q]
    · rw [if_neg c1]
      by_cases c2 : 9 ≤ v ∧ v < 9 + n
      · rw [if_pos c2, ← sm_rg (a := 1) (fun i => mid i (v - 9)) 18 (by omega) hn.1 (by omega)]
        refine sm_cg (fun w a b => ?_)
        unfold riF
        by_cases q : 1 ≤ w ∧ w < 1 + n
        · rw [if_neg (by omega), if_pos ⟨q, c2⟩, if_pos q]
        · rw [if_neg (by omega), if_neg (by omega), if_neg (by omega), if_neg (by omega), if_neg q]
      · rw [if_neg c2]
        by_cases c3 : v = 17
        · rw [if_pos c3, ← sm_rg (a := 9) snk 18 (by omega) hn.1 (by omega)]
          refine sm_cg (fun w a b => ?_)
          unfold riF
          by_cases q : 9 ≤ w ∧ w < 9 + n
          · rw [if_neg (by omega), if_neg (by omega), if_pos ⟨q, c3⟩, if_pos q]
          · rw [if_neg (by omega), if_neg (by omega), if_neg (by omega), if_neg (by omega), if_neg q]
        · rw [if_neg c3, ← sm_z 18]
          refine sm_cg (fun w a b => ?_)
          unfold riF
          rw [if_neg (by omega), if_neg (by omega), if_neg (by omega), if_neg (by omega)]
theorem ri_cir (hn : 0 ≤ n ∧ n ≤ 8) (h1 : ∀ i, 0 ≤ i → i < n → src i = sm (fun j => mid i j) n.toNat) (h2 : ∀ j, 0 ≤ j → j < n → snk j = sm (fun i => mid i j) n.toNat) (h3 : all = sm src n.toNat) : cirN (riF n src mid snk all) := by
  have h4 : sm snk n.toNat = sm src n.toNat := by
    rw [sm_cg (g := fun j => sm (fun i => mid i j) n.toNat) (fun j a b => h2 j a (by omega)), ← sm_sw, sm_cg (g := src) (fun i a b => (h1 i a (by omega)).symm)]
  intro v a b
  unfold exN
  rw [ri_out hn, ri_in hn]
  by_cases c0 : v = 0
  · rw [if_pos c0, if_pos c0]; omega
  · rw [if_neg c0, if_neg c0]
    by_cases c1 : 1 ≤ v ∧ v < 1 + n
    · rw [if_pos c1, if_pos c1, h1 (v - 1) (by omega) (by omega)]; omega
    · rw [if_neg c1, if_neg c1]
      by_cases c2 : 9 ≤ v ∧ v < 9 + n
      · rw [if_pos c2, if_pos c2, h2 (v - 9) (by omega) (by omega)]; omega
      · rw [if_neg c2, if_neg c2]
        by_cases c3 : v = 17
        · rw [if_pos c3, if_pos c3]; omega
        · rw [if_neg c3, if_neg c3]; rfl
/-- a ring that goes round: what its channels come to -/
theorem cir_ri (hn : 0 ≤ n ∧ n ≤ 8) (h : cirN (riF n src mid snk all)) : (∀ i, 0 ≤ i → i < n → src i = sm (fun j => mid i j) n.toNat) ∧ (∀ j, 0 ≤ j → j < n → snk j = sm (fun i => mid i j) n.toNat) ∧ all = sm src n.toNat := by
  refine ⟨fun i a b => ?_, fun j a b => ?_, ?_⟩
  · have := h (1 + i) (by omega) (by omega)
    unfold exN at this
    rw [ri_out hn, ri_in hn, if_neg (by omega), if_pos (by omega), if_neg (by omega), if_pos (by omega), show 1 + i - 1 = i by omega] at this
    omega
  · have := h (9 + j) (by omega) (by omega)
    unfold exN at this
    rw [ri_out hn, ri_in hn, if_neg (by omega), if_neg (by omega), if_pos (by omega), if_neg (by omega), if_neg (by omega), if_pos (by omega), show 9 + j - 9 = j by omega] at this
    omega
  · have := h 0 (by omega) (by omega)
    unfold exN at this
    rw [ri_out hn, ri_in hn, if_pos rfl, if_pos rfl] at this
    omega
end K23
theorem cirN_cg {x y : Int → Int → Int} (e : ∀ v w, 0 ≤ v → v < 18 → 0 ≤ w → w < 18 → x v w = y v w) (h : cirN x) : cirN y := fun v a b => by
  have := h v a b
  unfold exN at *
  rw [← sm_cg (f := fun w => x v w) (fun w c d => e v w a b c (by omega)), ← sm_cg (f := fun w => x w v) (fun w c d => e w v c (by omega) a b)]
  exact this
/-- bounds of what many fractions over b come to -/
def loB' (b s : Int) : Int := s / b
def hiB' (b s : Int) : Int := if s % b = 0 then s / b else s / b + 1
theorem lohi {b s : Int} (hb : 1 ≤ b) (hs : 0 ≤ s) : 0 ≤ loB' b s ∧ b * loB' b s ≤ s ∧ s ≤ b * hiB' b s ∧ loB' b s ≤ hiB' b s ∧ hiB' b s ≤ loB' b s + 1 := by
  have e := Int.mul_ediv_add_emod s b
  have r0 := Int.emod_nonneg s (by omega : b ≠ 0)
  have r1 := Int.emod_lt_of_pos s (by omega : 0 < b)
  have q0 := Int.ediv_nonneg hs (by omega : 0 ≤ b)
  unfold loB' hiB'
  split
  · refine ⟨q0, by omega, by omega, by omega, by omega⟩
  · rw [Int.mul_add, Int.mul_one]
    refine ⟨q0, by omega, by omega, by omega, by omega⟩
/-- a way to round: cells that aren't whole may be one more, and all sums keep their bounds -/
def fitR (n b : Int) (R y : Int → Int → Int) : Prop :=
  (∀ i j, 0 ≤ i → i < n → 0 ≤ j → j < n → loB' b (R i j) ≤ y i j ∧ y i j ≤ hiB' b (R i j)) ∧
  (∀ i, 0 ≤ i → i < n → loB' b (sm (fun j => R i j) n.toNat) ≤ sm (fun j => y i j) n.toNat ∧ sm (fun j => y i j) n.toNat ≤ hiB' b (sm (fun j => R i j) n.toNat)) ∧
  (∀ j, 0 ≤ j → j < n → loB' b (sm (fun i => R i j) n.toNat) ≤ sm (fun i => y i j) n.toNat ∧ sm (fun i => y i j) n.toNat ≤ hiB' b (sm (fun i => R i j) n.toNat)) ∧
  loB' b (sm (fun i => sm (fun j => R i j) n.toNat) n.toNat) ≤ sm (fun i => sm (fun j => y i j) n.toNat) n.toNat ∧ sm (fun i => sm (fun j => y i j) n.toNat) n.toNat ≤ hiB' b (sm (fun i => sm (fun j => R i j) n.toNat) n.toNat)
/-- the ring of a matrix -/
def rgZ (n : Int) (y : Int → Int → Int) : Int → Int → Int := riF n (fun i => sm (fun j => y i j) n.toNat) y (fun j => sm (fun i => y i j) n.toNat) (sm (fun i => sm (fun j => y i j) n.toNat) n.toNat)
theorem rgZ_cir {n : Int} {y : Int → Int → Int} (hn : 0 ≤ n ∧ n ≤ 8) : cirN (rgZ n y) := ri_cir hn (fun _ _ _ => rfl) (fun _ _ _ => rfl) rfl
/-- up to the place k (rows of n) no way that agrees before has less there -/
def frst (n b : Int) (R x : Int → Int → Int) (k : Int) : Prop := ∀ i j, 0 ≤ i → i < n → 0 ≤ j → j < n → n * i + j < k → ∀ y, fitR n b R y → (∀ i' j', 0 ≤ i' → i' < n → 0 ≤ j' → j' < n → n * i' + j' < n * i + j → y i' j' = x i' j') → x i j ≤ y i j
theorem frst_un {n b k : Int} {R x x' : Int → Int → Int} (hn : 1 ≤ n ∧ n ≤ 8) (h : frst n b R x k) (g : frst n b R x' k) (hx : ∃ y, fitR n b R y ∧ ∀ i j, 0 ≤ i → i < n → 0 ≤ j → j < n → n * i + j < k → y i j = x i j) (gx : ∃ y, fitR n b R y ∧ ∀ i j, 0 ≤ i → i < n → 0 ≤ j → j < n → n * i + j < k → y i j = x' i j) : ∀ i j, 0 ≤ i → i < n → 0 ≤ j → j < n → n * i + j < k → x i j = x' i j := by
  obtain ⟨y, y1, y2⟩ := hx
  obtain ⟨z, z1, z2⟩ := gx
  have go : ∀ m : Nat, ∀ i j, 0 ≤ i → i < n → 0 ≤ j → j < n → n * i + j < k → n * i + j < (m : Int) → x i j = x' i j := fun m => by
    induction m with
    | zero =>
      intro i j a b c d e f
      have := ix8 (n := n) (i := i) (j := j) ⟨by omega, hn.2⟩ ⟨a, b⟩ ⟨c, d⟩
      omega
    | succ m ih =>
      intro i j a b c d e f
      have p := h i j a b c d e z z1 (fun i' j' a' b' c' d' q => by rw [z2 i' j' a' b' c' d' (by omega)]; exact (ih i' j' a' b' c' d' (by omega) (by omega)).symm)
      have q := g i j a b c d e y y1 (fun i' j' a' b' c' d' q => by rw [y2 i' j' a' b' c' d' (by omega)]; exact ih i' j' a' b' c' d' (by omega) (by omega))
      rw [z2 i j a b c d e] at p
      rw [y2 i j a b c d e] at q
      omega
  intro i j a b c d e
  exact go (k.toNat + 1) i j a b c d e (by have := ix8 (n := n) (i := i) (j := j) ⟨by omega, hn.2⟩ ⟨a, b⟩ ⟨c, d⟩; omega)
end
section
/-! ROUNDING, the class: a way is found, and more flows along -/
def xF (σ : eS) (v w : Int) : Int := σ 41 (v * 18 + w)
def lF (σ : eS) (v w : Int) : Int := σ 42 (v * 18 + w)
def hF (σ : eS) (v w : Int) : Int := σ 43 (v * 18 + w)
def opF (σ : eS) (v w : Int) : Prop := xF σ v w < hF σ v w ∨ lF σ w v < xF σ w v
theorem t_Ro_isOpen {σ : eS} {f t : Int} (hf : 0 ≤ f ∧ f < 18) (ht : 0 ≤ t ∧ t < 18) : MtI shA M_Ro_isOpen [vr 40, vi f, vi t] σ (fun σ' z => σ' = σ ∧ ((z = 1 ∧ opF σ f t) ∨ (z = 0 ∧ ¬ opF σ f t))) := by
  refine Mt.of okM_Ro_isOpen (Nat.le_of_ble_eq_true rfl) (fun hk hg => ?_)
  refine ok_iload_n 0 rfl rfl rfl (ok_bipush 1 rfl rfl (by decide) (by decide) (ok_imul 2 rfl rfl (by first | omega | (simp [up_if]; omega) | (simp [up_if] at *; omega)) (ok_iload_n 3 rfl rfl rfl (ok_iadd 4 rfl rfl (by first | omega | (simp [up_if]; omega) | (simp [up_if] at *; omega)) (ok_ist3 5 rfl rfl rfl (ok_iload_n 6 rfl rfl rfl (ok_bipush 7 rfl rfl (by decide) (by decide) (ok_imul 8 rfl rfl (by first | omega | (simp [up_if]; omega) | (simp [up_if] at *; omega)) (ok_iload_n 9 rfl rfl rfl (ok_iadd 10 rfl rfl (by first | omega | (simp [up_if]; omega) | (simp [up_if] at *; omega)) (ok_ist4 11 rfl rfl rfl (ok_aload_n 12 rfl rfl rfl (ok_getR 13 rfl rfl fl_X6_11 rfl rfl (ok_iload_n 14 rfl rfl rfl (ok_iald 15 rfl rfl rfl (by first | omega | (simp [up_if]; omega) | (simp [up_if] at *; omega)) (ok_aload_n 16 rfl rfl rfl (ok_getR 17 rfl rfl fl_X6_18 rfl rfl (ok_iload_n 18 rfl rfl rfl (ok_iald 19 rfl rfl rfl (by first | omega | (simp [up_if]; omega) | (simp [up_if] at *; omega)) (ok_icmp_lt 20 47 rfl rfl rfl (fun h27 => ?_) (fun h27 => ?_)))))))))))))))))))))
  · refine ok_iconst 30 rfl rfl (by decide) (ok_goto 31 52 rfl rfl rfl (ok_zret 33 rfl rfl rfl (by first | omega | (simp [up_if]; omega) | (simp [up_if] at *; omega)) ?_))
    first | exact ⟨_, rfl, rfl, Or.inl ⟨rfl, by unfold opF xF lF hF; omega⟩⟩ | exact ⟨_, rfl, rfl, Or.inr ⟨rfl, by unfold opF xF lF hF; omega⟩⟩
  · refine ok_aload_n 21 rfl rfl rfl (ok_getR 22 rfl rfl fl_X6_11 rfl rfl (ok_iload 23 rfl rfl rfl (ok_iald 24 rfl rfl rfl (by first | omega | (simp [up_if]; omega) | (simp [up_if] at *; omega)) (ok_aload_n 25 rfl rfl rfl (ok_getR 26 rfl rfl fl_X6_15 rfl rfl (ok_iload 27 rfl rfl rfl (ok_iald 28 rfl rfl rfl (by first | omega | (simp [up_if]; omega) | (simp [up_if] at *; omega)) (ok_icmp_le 29 51 rfl rfl rfl (fun h44 => ?_) (fun h44 => ?_)))))))))
    · refine ok_iconst 32 rfl rfl (by decide) (ok_zret 33 rfl rfl rfl (by first | omega | (simp [up_if]; omega) | (simp [up_if] at *; omega)) ?_)
      first | exact ⟨_, rfl, rfl, Or.inl ⟨rfl, by unfold opF xF lF hF; omega⟩⟩ | exact ⟨_, rfl, rfl, Or.inr ⟨rfl, by unfold opF xF lF hF; omega⟩⟩
    · refine ok_iconst 30 rfl rfl (by decide) (ok_goto 31 52 rfl rfl rfl (ok_zret 33 rfl rfl rfl (by first | omega | (simp [up_if]; omega) | (simp [up_if] at *; omega)) ?_))
      first | exact ⟨_, rfl, rfl, Or.inl ⟨rfl, by unfold opF xF lF hF; omega⟩⟩ | exact ⟨_, rfl, rfl, Or.inr ⟨rfl, by unfold opF xF lF hF; omega⟩⟩
/-- the nodes that were come to, each from one of less rank over an open channel -/
def bfT (σ : eS) (op : Int → Int → Prop) (a : Int) (rk : Int → Int) (s : Int) : Prop := σ 44 a = a ∧ rk a = 0 ∧ ∀ v, 0 ≤ v → v < 18 → σ 44 v ≠ -1 → (0 ≤ rk v ∧ rk v < s) ∧ (v ≠ a → (0 ≤ σ 44 v ∧ σ 44 v < 18) ∧ σ 44 (σ 44 v) ≠ -1 ∧ rk (σ 44 v) < rk v ∧ op (σ 44 v) v)
def bfI (σ : eS) (op : Int → Int → Prop) (a b : Int) (rk : Int → Int) (s i : Int) : Prop := bfT σ op a rk s ∧ σ 44 b = -1 ∧ s = sm (fun v => if σ 44 v = -1 then 0 else 1) 18 ∧ (∀ k, 0 ≤ k → k < s → (0 ≤ σ 45 k ∧ σ 45 k < 18) ∧ σ 44 (σ 45 k) ≠ -1 ∧ rk (σ 45 k) = k) ∧ (∀ v, 0 ≤ v → v < 18 → σ 44 v ≠ -1 → σ 45 (rk v) = v) ∧ ∀ k w, 0 ≤ k → k < i → 0 ≤ w → w < 18 → op (σ 45 k) w → σ 44 w ≠ -1
theorem bfI_s {σ : eS} {op : Int → Int → Prop} {a b s i : Int} {rk : Int → Int} (hb : 0 ≤ b ∧ b < 18) (h : bfI σ op a b rk s i) : s ≤ 17 := by
  obtain ⟨-, h1, h2, -⟩ := h
  have x := sm_pt (f := fun v => if σ 44 v = -1 then (0 : Int) else 1) (g := fun v => if v = b then (1 : Int) else if σ 44 v = -1 then 0 else 1) (x := b) (d := 1) (n := 18) hb.1 (by omega) (by (try dsimp only); rw [if_pos rfl, if_pos h1]; rfl) (fun k p q r => by (try dsimp only); rw [if_neg r])
  have y := sm_bd (f := fun v => if v = b then (1 : Int) else if σ 44 v = -1 then 0 else 1) (B := 1) (by decide) (n := 18) (fun k p q => by (try dsimp only); split <;> (try split) <;> omega)
  omega
/-- a node more -/
theorem bfI_add {σ : eS} {op : Int → Int → Prop} {a b s i j : Int} {rk : Int → Int} (ha : 0 ≤ a ∧ a < 18) (h : bfI σ op a b rk s i) (hj : 0 ≤ j ∧ j < 18) (hnew : σ 44 j = -1) (hi : 0 ≤ i ∧ i < s) (ho : op (σ 45 i) j) (hjb : j ≠ b) : bfI (up (up σ 44 j (σ 45 i)) 45 s j) op a b (fun v => if v = j then s else rk v) (s + 1) i := by
  obtain ⟨⟨t1, t2, t3⟩, h1, h2, h3, h4, h5⟩ := h
  obtain ⟨u1, u2, u3⟩ := h3 i hi.1 hi.2
  have hja : j ≠ a := fun q => by rw [q, t1] at hnew; omega
  have e44 : ∀ v, up (up σ 44 j (σ 45 i)) 45 s j 44 v = if v = j then σ 45 i else σ 44 v := fun v => by
    rw [up_ne _ _ _ _ (by decide)]
    by_cases q : v = j
    · rw [if_pos q, q, up_same]
    · rw [if_neg q, up_nk _ _ _ _ q]
  have e45 : ∀ k, up (up σ 44 j (σ 45 i)) 45 s j 45 k = if k = s then j else σ 45 k := fun k => by
    by_cases q : k = s
    · rw [if_pos q, q, up_same]
    · rw [if_neg q, up_nk _ _ _ _ q, up_ne _ _ _ _ (by decide)]
  have vis : ∀ v, σ 44 v ≠ -1 → v ≠ j := fun v q w => q (by rw [w]; exact hnew)
  have s0 : 0 ≤ s := by omega
  obtain ⟨rk', er⟩ : ∃ r : Int → Int, r = fun v => if v = j then s else rk v := ⟨_, rfl⟩
  rw [← er]
  have er' : ∀ v, rk' v = if v = j then s else rk v := fun v => by rw [er]
  refine ⟨⟨by rw [e44, if_neg (fun q => hja q.symm), t1], by rw [er', if_neg (fun q => hja q.symm), t2], fun v a1 a2 a3 => ?_⟩, by rw [e44, if_neg (fun q => hjb q.symm), h1], ?_, fun k a1 a2 => ?_, fun v a1 a2 a3 => ?_, fun k w a1 a2 a3 a4 a5 => ?_⟩
  · rw [e44] at a3
    by_cases q : v = j
    · rw [er' v, if_pos q, e44 v, if_pos q]
      refine ⟨⟨s0, by omega⟩, fun _ => ⟨u1, ?_, ?_, by rw [q]; exact ho⟩⟩
      · rw [e44, if_neg (vis _ u2)]; exact u2
      · rw [er', if_neg (vis _ u2), u3]; exact hi.2
    · rw [if_neg q] at a3
      rw [er' v, if_neg q, e44 v, if_neg q]
      obtain ⟨b1, b2⟩ := t3 v a1 a2 a3
      refine ⟨⟨b1.1, by omega⟩, fun w => ?_⟩
      obtain ⟨c1, c2, c3, c4⟩ := b2 w
      refine ⟨c1, ?_, ?_, c4⟩
      · rw [e44, if_neg (vis _ c2)]; exact c2
      · rw [er', if_neg (vis _ c2)]; exact c3
  · have hp := sm_pt (f := fun v => if σ 44 v = -1 then (0 : Int) else 1) (g := fun v => if up (up σ 44 j (σ 45 i)) 45 s j 44 v = -1 then (0 : Int) else 1) (x := j) (d := 1) (n := 18) hj.1 (by omega) (by (try dsimp only); rw [e44, if_pos rfl, if_neg (by omega), if_pos hnew]; rfl) (fun k p q r => by (try dsimp only); rw [e44, if_neg r])
    omega
  · rw [e45]
    by_cases q : k = s
    · rw [if_pos q, e44, if_pos rfl, er', if_pos rfl]
      exact ⟨hj, by omega, q.symm⟩
    · rw [if_neg q]
      obtain ⟨b1, b2, b3⟩ := h3 k a1 (by omega)
      rw [e44, if_neg (vis _ b2), er', if_neg (vis _ b2)]
      exact ⟨b1, b2, b3⟩
  · rw [e44] at a3
    by_cases q : v = j
    · rw [er', if_pos q, e45, if_pos rfl, q]
    · rw [if_neg q] at a3
      rw [er', if_neg q, e45, if_neg (by have := (t3 v a1 a2 a3).1; omega)]
      exact h4 v a1 a2 a3
  · rw [e45, if_neg (by omega)] at a5
    rw [e44]
    by_cases q : w = j
    · rw [if_pos q]; omega
    · rw [if_neg q]; exact h5 k w a1 a2 a3 a4 a5
/-- what findWay says -/
def wayY (σ : eS) (op : Int → Int → Prop) (a b : Int) : Prop := ∃ rk s, s ≤ 18 ∧ bfT σ op a rk s ∧ σ 44 b ≠ -1
def wayN (op : Int → Int → Prop) (a b : Int) : Prop := ∃ S : Int → Prop, S a ∧ ¬ S b ∧ ∀ v w, 0 ≤ v → v < 18 → 0 ≤ w → w < 18 → S v → ¬ S w → ¬ op v w
abbrev rgBf : Nat → Int → Prop := fun c _ => c = 44 ∨ c = 45
theorem opF_cg {σ τ : eS} (f : fr rgBf σ τ) (v w : Int) : opF τ v w ↔ opF σ v w := by
  unfold opF xF lF hF
  rw [f 41 _ (by simp [rgBf]), f 41 _ (by simp [rgBf]), f 42 _ (by simp [rgBf]), f 43 _ (by simp [rgBf])]
theorem t_Ro_findWay {σ : eS} {a b : Int} (ha : 0 ≤ a ∧ a < 18) (hb : 0 ≤ b ∧ b < 18) (hab : a ≠ b) : MtI shA M_Ro_findWay [vr 40, vi a, vi b] σ (fun σ' z => fr rgBf σ σ' ∧ ((z = 1 ∧ wayY σ' (opF σ) a b) ∨ (z = 0 ∧ wayN (opF σ) a b))) := by
  refine Mt.of okM_Ro_findWay (Nat.le_of_ble_eq_true rfl) (fun hk hg => ?_)
  refine ok_aload_n 0 rfl rfl rfl (ok_getR 1 rfl rfl fl_X6_21 rfl rfl (ok_iconst 2 rfl rfl (by decide) (ok_callSV (M' := M_Ja_fill) (as := [_, _]) 3 rfl rfl ml_X6_53 (s_Ja_fill (c := 44) (N := 18) rfl (by decide)) ⟨Nat.le_of_ble_eq_true rfl, Nat.le_of_ble_eq_true rfl⟩ rfl (Nat.le_of_ble_eq_true rfl) (fun τ g => ?_))))
  refine ok_aload_n 4 rfl rfl rfl (ok_getR 5 rfl rfl fl_X6_21 rfl rfl (ok_iload_n 6 rfl rfl rfl (ok_iload_n 7 rfl rfl rfl (ok_iast 8 rfl rfl rfl (by first | omega | (simp [up_if]; omega) | (simp [up_if] at *; omega)) (ok_aload_n 9 rfl rfl rfl (ok_getR 10 rfl rfl fl_X6_24 rfl rfl (ok_iconst 11 rfl rfl (by decide) (ok_iload_n 12 rfl rfl rfl (ok_iast 13 rfl rfl rfl (by first | omega | (simp [up_if]; omega) | (simp [up_if] at *; omega)) (ok_iconst 14 rfl rfl (by decide) (ok_ist3 15 rfl rfl rfl (ok_iconst 16 rfl rfl (by decide) (ok_ist4 17 rfl rfl rfl ?_)))))))))))))
  obtain ⟨υ, eυ⟩ : ∃ υ, υ = up (up τ 44 a a) 45 0 a := ⟨_, rfl⟩
  rw [← eυ]
  have f0 : fr rgBf σ υ := by rw [eυ]; exact fr_up (fr_up (g.1.mono (fun c k w => by simp only [rgBf]; omega)) (by simp [rgBf])) (by simp [rgBf])
  have e44 : ∀ k, k ≠ a → 0 ≤ k → k < 18 → υ 44 k = -1 := fun k q x y => by rw [eυ, up_ne _ _ _ _ (by decide), up_nk _ _ _ _ q]; exact g.2 k x (by omega)
  have e44a : υ 44 a = a := by rw [eυ, up_ne _ _ _ _ (by decide), up_same]
  have e45 : υ 45 0 = a := by rw [eυ, up_same]
  have onl : ∀ v, 0 ≤ v → v < 18 → υ 44 v ≠ -1 → v = a := fun v x y z => Classical.byContradiction (fun q => z (e44 v q x y))
  have i0 : bfI υ (opF σ) a b (fun _ => 0) 1 0 := by
    refine ⟨⟨e44a, rfl, fun v x y z => ⟨⟨by show (0 : Int) ≤ 0; decide, by show (0 : Int) < 1; decide⟩, fun q => absurd (onl v x y z) q⟩⟩, e44 b (fun q => hab q.symm) hb.1 hb.2, ?_, fun k x y => ?_, fun v x y z => by rw [onl v x y z]; exact e45, fun k w x y => by omega⟩
    · refine (sm_one (x := a) 1 (n := 18) ha.1 (by omega)).symm.trans (sm_cg (fun k x y => ?_))
      (try dsimp only)
      by_cases q : k = a
      · rw [if_pos q, q, e44a, if_neg (by omega)]
      · rw [if_neg q, e44 k q x (by omega), if_pos rfl]
    · rw [show k = 0 by omega, e45, e44a]; exact ⟨ha, by omega, rfl⟩
  clear e44 e44a e45 onl eυ g τ
  refine lpO4 (fun (s i : Int) (_ : Int → Int) (_ : eS) => [some (vr 40), some (vi a), some (vi b), some (vi s), some (vi i), none]) (fun _ _ _ ρ => ρ) (fun s i rk ρ => (1 ≤ s ∧ 0 ≤ i ∧ i ≤ s) ∧ fr rgBf σ ρ ∧ bfI ρ (opF σ) a b rk s i) (fun _ i _ _ => (18 - i).toNat) ?_ 1 0 (fun _ => 0) υ ⟨⟨by omega, by omega, by omega⟩, f0, i0⟩
  clear f0 i0 υ
  rintro s i rk ρ ⟨⟨s1, i1, i2⟩, f, h⟩ ih
  have s17 := bfI_s hb h
  refine ok_iload 18 rfl rfl rfl (ok_iload_n 19 rfl rfl rfl (ok_icmp_ge 20 128 rfl rfl rfl (fun h30 => ?_) (fun h30 => ?_)))
  · refine ok_iconst 69 rfl rfl (by decide) (ok_zret 70 rfl rfl rfl (by first | omega | (simp [up_if]; omega) | (simp [up_if] at *; omega)) ?_)
    refine ⟨_, rfl, f, Or.inr ⟨rfl, fun v => ρ 44 v ≠ -1, ?_, ?_, fun v w v1 v2 w1 w2 p q r => ?_⟩⟩
    · show ρ 44 a ≠ -1; rw [h.1.1]; omega
    · exact fun q => q h.2.1
    · have x := h.2.2.2.2.1 v v1 v2 p
      have y := (h.1.2.2 v v1 v2 p).1
      exact q (h.2.2.2.2.2 (rk v) w y.1 (by omega) w1 w2 (by rw [x]; exact r))
  · refine ok_iload 21 rfl rfl rfl (ok_bipush 22 rfl rfl (by decide) (by decide) (ok_icmp_ge 23 128 rfl rfl rfl (fun h37 => ?_) (fun h37 => ?_)))
    · refine ok_iconst 69 rfl rfl (by decide) (ok_zret 70 rfl rfl rfl (by first | omega | (simp [up_if]; omega) | (simp [up_if] at *; omega)) ?_)
      refine ⟨_, rfl, f, Or.inr ⟨rfl, fun v => ρ 44 v ≠ -1, ?_, ?_, fun v w v1 v2 w1 w2 p q r => ?_⟩⟩
      · show ρ 44 a ≠ -1; rw [h.1.1]; omega
      · exact fun q => q h.2.1
      · have x := h.2.2.2.2.1 v v1 v2 p
        have y := (h.1.2.2 v v1 v2 p).1
        exact q (h.2.2.2.2.2 (rk v) w y.1 (by omega) w1 w2 (by rw [x]; exact r))
    · refine ok_iconst 24 rfl rfl (by decide) (ok_ist5 25 rfl rfl rfl ?_)
      have il : i < s := by omega
      refine lpO4 (fun (s j : Int) (_ : Int → Int) (_ : eS) => [some (vr 40), some (vi a), some (vi b), some (vi s), some (vi i), some (vi j)]) (fun _ _ _ ρ => ρ) (fun s j rk ρ => (i < s ∧ 0 ≤ j ∧ j ≤ 18) ∧ fr rgBf σ ρ ∧ bfI ρ (opF σ) a b rk s i ∧ ∀ w, 0 ≤ w → w < j → opF σ (ρ 45 i) w → ρ 44 w ≠ -1) (fun _ j _ _ => (18 - j).toNat) ?_ s 0 rk ρ ⟨⟨il, by omega, by omega⟩, f, h, fun w x y => by omega⟩
      clear f h s17 ρ s1 i2 il h30 s rk
      rintro s j rk ρ ⟨⟨s1, j1, j2⟩, f, h, hw⟩ ih2
      have s17 := bfI_s hb h
      obtain ⟨v1, v2, v3⟩ := h.2.2.2.1 i i1 s1
      refine ok_iload 26 rfl rfl rfl (ok_bipush 27 rfl rfl (by decide) (by decide) (ok_icmp_ge 28 122 rfl rfl rfl (fun h47 => ?_) (fun h47 => ?_)))
      · refine ok_inc4 67 rfl rfl rfl (by first | omega | (simp [up_if]; omega) | (simp [up_if] at *; omega)) (ok_goto 68 27 rfl rfl rfl ?_)
        first
          | (exfalso; omega)
          | (refine ok_fg [some (vr 40), some (vi a), some (vi b), some (vi s), some (vi (i + 1)), none] ⟨rfl, rfl, rfl, rfl, rfl, trivial⟩ (ih s (i + 1) rk ρ ⟨⟨by omega, by omega, by omega⟩, f, h.1, h.2.1, h.2.2.1, h.2.2.2.1, h.2.2.2.2.1, fun k w a1 a2 a3 a4 a5 => ?_⟩ (by omega))
             by_cases q : k = i
             · rw [q] at a5; exact hw w a3 (by omega) a5
             · exact h.2.2.2.2.2 k w a1 (by omega) a3 a4 a5)
      · refine ok_iload_n 29 rfl rfl rfl (ok_bipush 30 rfl rfl (by decide) (by decide) (ok_icmp_ge 31 122 rfl rfl rfl (fun h53 => ?_) (fun h53 => ?_)))
        · refine ok_inc4 67 rfl rfl rfl (by first | omega | (simp [up_if]; omega) | (simp [up_if] at *; omega)) (ok_goto 68 27 rfl rfl rfl ?_)
          first
            | (exfalso; omega)
            | (refine ok_fg [some (vr 40), some (vi a), some (vi b), some (vi s), some (vi (i + 1)), none] ⟨rfl, rfl, rfl, rfl, rfl, trivial⟩ (ih s (i + 1) rk ρ ⟨⟨by omega, by omega, by omega⟩, f, h.1, h.2.1, h.2.2.1, h.2.2.2.1, h.2.2.2.2.1, fun k w a1 a2 a3 a4 a5 => ?_⟩ (by omega))
               by_cases q : k = i
               · rw [q] at a5; exact hw w a3 (by omega) a5
               · exact h.2.2.2.2.2 k w a1 (by omega) a3 a4 a5)
        · refine ok_aload_n 32 rfl rfl rfl (ok_getR 33 rfl rfl fl_X6_21 rfl rfl (ok_iload 34 rfl rfl rfl (ok_iald 35 rfl rfl rfl (by first | omega | (simp [up_if]; omega) | (simp [up_if] at *; omega)) (ok_iconst 36 rfl rfl (by decide) (ok_icmp_ne 37 116 rfl rfl rfl (fun h64 => ?_) (fun h64 => ?_))))))
          · refine ok_inc5 65 rfl rfl rfl (by first | omega | (simp [up_if]; omega) | (simp [up_if] at *; omega)) (ok_goto 66 43 rfl rfl rfl ?_)
            refine ih2 s (j + 1) rk ρ ⟨⟨by omega, by omega, by omega⟩, f, h, fun w x y r => ?_⟩ (by omega)
            by_cases q : w = j
            · rw [q]; exact h64
            · exact hw w x (by omega) r
          · refine ok_aload_n 38 rfl rfl rfl (ok_aload_n 39 rfl rfl rfl (ok_getR 40 rfl rfl fl_X6_24 rfl rfl (ok_iload 41 rfl rfl rfl (ok_iald 42 rfl rfl rfl (by first | omega | (simp [up_if]; omega) | (simp [up_if] at *; omega)) (ok_iload 43 rfl rfl rfl (ok_callVI (M' := M_Ro_isOpen) (as := [_, _]) 44 rfl rfl ml_X6_80 (t_Ro_isOpen v1 ⟨by omega, by omega⟩) rfl rfl (Nat.le_of_ble_eq_true rfl) ⟨Nat.le_of_ble_eq_true rfl, Nat.le_of_ble_eq_true rfl⟩ rfl (Nat.le_of_ble_eq_true rfl) (fun σ' z hz => ?_)))))))
            obtain ⟨hs_, hz⟩ := hz
            rw [hs_]; clear hs_ σ'
            rw [opF_cg f] at hz
            refine ok_if_eq 45 116 rfl rfl rfl (fun h80 => ?_) (fun h80 => ?_)
            · refine ok_inc5 65 rfl rfl rfl (by first | omega | (simp [up_if]; omega) | (simp [up_if] at *; omega)) (ok_goto 66 43 rfl rfl rfl ?_)
              refine ih2 s (j + 1) rk ρ ⟨⟨by omega, by omega, by omega⟩, f, h, fun w x y r => ?_⟩ (by omega)
              by_cases q : w = j
              · rcases hz with u | u
                · omega
                · rw [q] at r; exact absurd r u.2
              · exact hw w x (by omega) r
            · refine ok_aload_n 46 rfl rfl rfl (ok_getR 47 rfl rfl fl_X6_21 rfl rfl (ok_iload 48 rfl rfl rfl (ok_aload_n 49 rfl rfl rfl (ok_getR 50 rfl rfl fl_X6_24 rfl rfl (ok_iload 51 rfl rfl rfl (ok_iald 52 rfl rfl rfl (by first | omega | (simp [up_if]; omega) | (simp [up_if] at *; omega)) (ok_iast 53 rfl rfl rfl (by first | omega | (simp [up_if]; omega) | (simp [up_if] at *; omega)) ?_)))))))
              have ho : opF σ (ρ 45 i) j := by
                rcases hz with u | u
                · exact u.2
                · omega
              have F : fr rgBf σ (up ρ 44 j (ρ 45 i)) := fr_up f (by simp [rgBf])
              have jl : j < 18 := by omega
              refine ok_iload 54 rfl rfl rfl (ok_iload_n 55 rfl rfl rfl (ok_icmp_ne 56 105 rfl rfl rfl (fun h100 => ?_) (fun h100 => ?_)))
              · refine ok_aload_n 59 rfl rfl rfl (ok_getR 60 rfl rfl fl_X6_24 rfl rfl (ok_iload_n 61 rfl rfl rfl (ok_iload 62 rfl rfl rfl (ok_iast 63 rfl rfl rfl (by first | omega | (simp [up_if]; omega) | (simp [up_if] at *; omega)) (ok_inc3 64 rfl rfl rfl (by first | omega | (simp [up_if]; omega) | (simp [up_if] at *; omega)) (ok_inc5 65 rfl rfl rfl (by first | omega | (simp [up_if]; omega) | (simp [up_if] at *; omega)) (ok_goto 66 43 rfl rfl rfl ?_)))))))
                refine ih2 (s + 1) (j + 1) (fun v => if v = j then s else rk v) _ ⟨⟨by omega, by omega, by omega⟩, fr_up F (by simp [rgBf]), bfI_add ha h ⟨j1, jl⟩ h64 ⟨i1, s1⟩ ho h100, fun w x y r => ?_⟩ (by omega)
                rw [up_nk _ _ _ _ (by omega), up_ne _ _ _ _ (by decide)] at r
                rw [up_ne _ _ _ _ (by decide)]
                by_cases q : w = j
                · rw [q, up_same]; omega
                · rw [up_nk _ _ _ _ q]; exact hw w x (by omega) r
              · refine ok_iconst 57 rfl rfl (by decide) (ok_zret 58 rfl rfl rfl (by first | omega | (simp [up_if]; omega) | (simp [up_if] at *; omega)) ?_)
                refine ⟨_, rfl, F, Or.inl ⟨rfl, fun v => if v = j then s else rk v, s + 1, by omega, ?_, by rw [← h100, up_same]; omega⟩⟩
                obtain ⟨⟨t1, t2, t3⟩, h1, -, h3, -, -⟩ := h
                have hja : j ≠ a := fun q => by rw [q, t1] at h64; omega
                obtain ⟨u1, u2, u3⟩ := h3 i i1 s1
                have vis : ∀ v, ρ 44 v ≠ -1 → v ≠ j := fun v q w => q (by rw [w]; exact h64)
                obtain ⟨rk', er⟩ : ∃ r : Int → Int, r = fun v => if v = j then s else rk v := ⟨_, rfl⟩
                rw [← er]
                have er' : ∀ v, rk' v = if v = j then s else rk v := fun v => by rw [er]
                refine ⟨by rw [up_nk _ _ _ _ (fun q => hja q.symm), t1], by rw [er', if_neg (fun q => hja q.symm), t2], fun v a1 a2 a3 => ?_⟩
                by_cases q : v = j
                · rw [er' v, if_pos q, q, up_same]
                  refine ⟨⟨by omega, by omega⟩, fun _ => ⟨u1, ?_, ?_, ho⟩⟩
                  · rw [up_nk _ _ _ _ (vis _ u2)]; exact u2
                  · rw [er', if_neg (vis _ u2), u3]; exact s1
                · rw [up_nk _ _ _ _ q] at a3 ⊢
                  rw [er' v, if_neg q]
                  obtain ⟨b1, b2⟩ := t3 v a1 a2 a3
                  refine ⟨⟨b1.1, by omega⟩, fun w => ?_⟩
                  obtain ⟨c1, c2, c3, c4⟩ := b2 w
                  exact ⟨c1, by rw [up_nk _ _ _ _ (vis _ c2)]; exact c2, by rw [er', if_neg (vis _ c2)]; exact c3, c4⟩
end
section
/-! ROUNDING, the class: flowing along -/
theorem ex_add {x y : Int → Int → Int} {p q d : Int} (hp : 0 ≤ p ∧ p < 18) (hq : 0 ≤ q ∧ q < 18) (e : ∀ v w, 0 ≤ v → v < 18 → 0 ≤ w → w < 18 → y v w = if v = p ∧ w = q then x v w + d else x v w) {v : Int} (hv : 0 ≤ v ∧ v < 18) : exN y v = exN x v + (if v = p then d else 0) - (if v = q then d else 0) := by
  have o : sm (fun w => y v w) 18 = sm (fun w => x v w) 18 + (if v = p then d else 0) := by
    by_cases c : v = p
    · rw [if_pos c]
      refine sm_pt (x := q) hq.1 (by omega) ?_ (fun k a b r => ?_)
      · (try dsimp only); rw [e v q hv.1 hv.2 hq.1 hq.2, if_pos ⟨c, rfl⟩]
      · (try dsimp only); rw [e v k hv.1 hv.2 a (by omega), if_neg (fun u => r u.2)]
    · rw [if_neg c, Int.add_zero]
      exact sm_cg (fun k a b => by rw [e v k hv.1 hv.2 a (by omega), if_neg (fun u => c u.1)])
  have i : sm (fun w => y w v) 18 = sm (fun w => x w v) 18 + (if v = q then d else 0) := by
    by_cases c : v = q
    · rw [if_pos c]
      refine sm_pt (x := p) hp.1 (by omega) ?_ (fun k a b r => ?_)
      · (try dsimp only); rw [e p v hp.1 hp.2 hv.1 hv.2, if_pos ⟨rfl, c⟩]
      · (try dsimp only); rw [e k v a (by omega) hv.1 hv.2, if_neg (fun u => r u.1)]
    · rw [if_neg c, Int.add_zero]
      exact sm_cg (fun k a b => by rw [e k v a (by omega) hv.1 hv.2, if_neg (fun u => c u.2)])
  unfold exN
  rw [o, i]
  omega
theorem xF_up {ρ : eS} {p q z v w : Int} (hq : 0 ≤ q ∧ q < 18) (hw : 0 ≤ w ∧ w < 18) : xF (up ρ 41 (p * 18 + q) z) v w = if v = p ∧ w = q then z else xF ρ v w := by
  unfold xF
  by_cases c : v = p ∧ w = q
  · rw [if_pos c, c.1, c.2, up_same]
  · rw [if_neg c, up_nk _ _ _ _ (by omega)]
def FB (x l h : Int → Int → Int) : Prop := ∀ v w, 0 ≤ v → v < 18 → 0 ≤ w → w < 18 → 0 ≤ x v w ∧ x v w ≤ h v w ∧ h v w ≤ 100 ∧ 0 ≤ l v w
theorem t_Ro_flowAlong {σ : eS} {a b : Int} (ha : 0 ≤ a ∧ a < 18) (hb : 0 ≤ b ∧ b < 18) (hab : a ≠ b) (hB : FB (xF σ) (lF σ) (hF σ)) (h : wayY σ (opF σ) a b) : MtV shA M_Ro_flowAlong [vr 40, vi a, vi b] σ (fun σ' => fr (fun c _ => c = 41) σ σ' ∧ FB (xF σ') (lF σ) (hF σ) ∧ (∀ v w, 0 ≤ v → v < 18 → 0 ≤ w → w < 18 → min (xF σ v w) (lF σ v w) ≤ xF σ' v w) ∧ (∀ v, 0 ≤ v → v < 18 → exN (xF σ') v = exN (xF σ) v + (if v = a then 1 else 0) - (if v = b then 1 else 0)) ∧ (¬ opF σ a b → xF σ' a b = xF σ a b ∧ xF σ' b a = xF σ b a)) := by
  refine Mt.of okM_Ro_flowAlong (Nat.le_of_ble_eq_true rfl) (fun hk hg => ?_)
  obtain ⟨rk, s, hs, ⟨t1, t2, t3⟩, hb1⟩ := h
  have rb := (t3 b hb.1 hb.2 hb1).1
  refine ok_iload_n 0 rfl rfl rfl (ok_ist3 1 rfl rfl rfl (ok_iconst 2 rfl rfl (by decide) (ok_ist4 3 rfl rfl rfl ?_)))
  refine lpO3 (fun (n i : Int) (_ : eS) => [some (vr 40), some (vi a), some (vi b), some (vi n), some (vi i), none]) (fun _ _ ρ => ρ) (fun n i ρ => ((0 ≤ n ∧ n < 18) ∧ 0 ≤ i ∧ rk n + i ≤ 17 ∧ σ 44 n ≠ -1) ∧ fr (fun c _ => c = 41) σ ρ ∧ FB (xF ρ) (lF σ) (hF σ) ∧ (∀ v w, 0 ≤ v → v < 18 → 0 ≤ w → w < 18 → min (xF σ v w) (lF σ v w) ≤ xF ρ v w) ∧ (∀ v, 0 ≤ v → v < 18 → exN (xF ρ) v = exN (xF σ) v + (if v = n then 1 else 0) - (if v = b then 1 else 0)) ∧ ∀ p q, 0 ≤ p → p < 18 → 0 ≤ q → q < 18 → (∀ u, 0 ≤ u → u < 18 → σ 44 u ≠ -1 → u ≠ a → rk n < rk u → ¬ ((p = σ 44 u ∧ q = u) ∨ (p = u ∧ q = σ 44 u))) → xF ρ p q = xF σ p q) (fun _ i _ => (18 - i).toNat) ?_ b 0 σ ⟨⟨hb, by omega, by omega, hb1⟩, fr.rf, hB, fun v w _ _ _ _ => by omega, fun v _ _ => by omega, fun p q _ _ _ _ _ => rfl⟩
  rintro n i ρ ⟨⟨n1, i1, i2, hq⟩, f, fb, lo, exs, un⟩ ih
  have rn := (t3 n n1.1 n1.2 hq).1
  have e : ∀ k, ρ 44 k = σ 44 k := fun k => f 44 k (by simp)
  have en := e n
  have e42 : ∀ k, ρ 42 k = σ 42 k := fun k => f 42 k (by simp)
  have e43 : ∀ k, ρ 43 k = σ 43 k := fun k => f 43 k (by simp)
  by_cases na : n = a
  · subst na
    refine ok_iload 4 rfl rfl rfl (ok_bipush 5 rfl rfl (by decide) (by decide) (ok_icmp_ge 6 94 rfl rfl rfl (fun h9 => ?_) (fun h9 => ?_)))
    · refine ok_vret 59 rfl rfl rfl ?_
      refine ⟨rfl, f, fb, lo, exs, fun no => ⟨un _ _ ha.1 ha.2 hb.1 hb.2 (fun u u1 u2 u3 u4 _ w => ?_), un _ _ hb.1 hb.2 ha.1 ha.2 (fun u u1 u2 u3 u4 _ w => ?_)⟩⟩
      · rcases w with ⟨w1, w2⟩ | ⟨w1, w2⟩
        · have := ((t3 u u1 u2 u3).2 u4).2.2.2
          rw [← w1, ← w2] at this; exact no this
        · exact u4 w1.symm
      · rcases w with ⟨w1, w2⟩ | ⟨w1, w2⟩
        · exact u4 w2.symm
        · have := ((t3 u u1 u2 u3).2 u4).2.2.2
          rw [← w2, ← w1] at this; exact no this
    · refine ok_iload_n 7 rfl rfl rfl (ok_iload_n 8 rfl rfl rfl (ok_icmp_eq 9 94 rfl rfl rfl (fun h14 => ?_) (fun h14 => ?_)))
      · refine ok_vret 59 rfl rfl rfl ?_
        refine ⟨rfl, f, fb, lo, exs, fun no => ⟨un _ _ ha.1 ha.2 hb.1 hb.2 (fun u u1 u2 u3 u4 _ w => ?_), un _ _ hb.1 hb.2 ha.1 ha.2 (fun u u1 u2 u3 u4 _ w => ?_)⟩⟩
        · rcases w with ⟨w1, w2⟩ | ⟨w1, w2⟩
          · have := ((t3 u u1 u2 u3).2 u4).2.2.2
            rw [← w1, ← w2] at this; exact no this
          · exact u4 w1.symm
        · rcases w with ⟨w1, w2⟩ | ⟨w1, w2⟩
          · exact u4 w2.symm
          · have := ((t3 u u1 u2 u3).2 u4).2.2.2
            rw [← w2, ← w1] at this; exact no this
      · exfalso; omega
  · obtain ⟨y1, y2, y3, y4⟩ := (t3 n n1.1 n1.2 hq).2 na
    obtain ⟨m, em⟩ : ∃ m, m = σ 44 n := ⟨_, rfl⟩
    rw [← em] at y1 y2 y3 y4
    have hmn : m ≠ n := fun w => by rw [w] at y3; omega
    have k1 : xF ρ m n = xF σ m n := un m n y1.1 y1.2 n1.1 n1.2 (fun u u1 u2 u3 u4 u5 w => by
      rcases w with ⟨w1, w2⟩ | ⟨w1, w2⟩
      · rw [← w2] at u5; omega
      · rw [← w1] at u5; omega)
    have k2 : xF ρ n m = xF σ n m := un n m n1.1 n1.2 y1.1 y1.2 (fun u u1 u2 u3 u4 u5 w => by
      rcases w with ⟨w1, w2⟩ | ⟨w1, w2⟩
      · rw [← w2] at u5; omega
      · rw [← w1] at u5; omega)
    have b1 := fb m n y1.1 y1.2 n1.1 n1.2
    have b2 := fb n m n1.1 n1.2 y1.1 y1.2
    have l1 := lo m n y1.1 y1.2 n1.1 n1.2
    have l2 := lo n m n1.1 n1.2 y1.1 y1.2
    have x1 : ρ 41 (m * 18 + n) = xF ρ m n := rfl
    have x2 : ρ 41 (n * 18 + m) = xF ρ n m := rfl
    have x3 : ρ 43 (m * 18 + n) = hF σ m n := e43 _
    unfold opF at y4
    have t2' : ∀ (ρ' : eS) (c : Int), fr (fun c _ => c = 41) σ ρ' → FB (xF ρ') (lF σ) (hF σ) → (∀ v w, 0 ≤ v → v < 18 → 0 ≤ w → w < 18 → min (xF σ v w) (lF σ v w) ≤ xF ρ' v w) → (∀ v, 0 ≤ v → v < 18 → exN (xF ρ') v = exN (xF ρ) v + (if v = m then 1 else 0) - (if v = n then 1 else 0)) → (∀ v w, 0 ≤ v → v < 18 → 0 ≤ w → w < 18 → ¬ ((v = m ∧ w = n) ∨ (v = n ∧ w = m)) → xF ρ' v w = xF ρ v w) → Ok shA M_Ro_flowAlong 81 [some (vr 40), some (vi a), some (vi b), some (vi n), some (vi i), some (vi c)] [] ρ' (fun σ' v => v = none ∧ fr (fun c _ => c = 41) σ σ' ∧ FB (xF σ') (lF σ) (hF σ) ∧ (∀ v w, 0 ≤ v → v < 18 → 0 ≤ w → w < 18 → min (xF σ v w) (lF σ v w) ≤ xF σ' v w) ∧ (∀ v, 0 ≤ v → v < 18 → exN (xF σ') v = exN (xF σ) v + (if v = a then 1 else 0) - (if v = b then 1 else 0)) ∧ (¬ opF σ a b → xF σ' a b = xF σ a b ∧ xF σ' b a = xF σ b a)) := by
      intro ρ' c f' fb' lo' ex' un'
      have e' : ρ' 44 n = m := by rw [f' 44 n (by simp), em]
      refine ok_aload_n 52 rfl rfl rfl (ok_getR 53 rfl rfl fl_X6_21 rfl rfl (ok_iload_n 54 rfl rfl rfl (ok_iald 55 rfl rfl rfl (by first | omega | (simp [up_if]; omega) | (simp [up_if] at *; omega)) (ok_ist3 56 rfl rfl rfl (ok_inc4 57 rfl rfl rfl (by first | omega | (simp [up_if]; omega) | (simp [up_if] at *; omega)) (ok_goto 58 5 rfl rfl rfl ?_))))))
      rw [e']
      refine ok_fg [some (vr 40), some (vi a), some (vi b), some (vi _), some (vi (i + 1)), none] ⟨rfl, rfl, rfl, rfl, rfl, trivial⟩ (ih m (i + 1) ρ' ⟨⟨y1, by omega, by omega, y2⟩, f', fb', lo', fun v v1 v2 => by rw [ex' v v1 v2, exs v v1 v2]; omega, fun p q p1 p2 q1 q2 w => ?_⟩ (by omega))
      rw [un' p q p1 p2 q1 q2 (by rw [em]; exact w n n1.1 n1.2 hq na y3)]
      exact un p q p1 p2 q1 q2 (fun u u1 u2 u3 u4 u5 => w u u1 u2 u3 u4 (by omega))
    refine ok_iload 4 rfl rfl rfl (ok_bipush 5 rfl rfl (by decide) (by decide) (ok_icmp_ge 6 94 rfl rfl rfl (fun h9 => ?_) (fun h9 => ?_)))
    · exfalso; omega
    · refine ok_iload_n 7 rfl rfl rfl (ok_iload_n 8 rfl rfl rfl (ok_icmp_eq 9 94 rfl rfl rfl (fun h14 => ?_) (fun h14 => ?_)))
      · exfalso; omega
      · refine ok_aload_n 10 rfl rfl rfl (ok_getR 11 rfl rfl fl_X6_21 rfl rfl (ok_iload_n 12 rfl rfl rfl (ok_iald 13 rfl rfl rfl (by first | omega | (simp [up_if]; omega) | (simp [up_if] at *; omega)) ?_)))
        rw [en, ← em]
        refine ok_bipush 14 rfl rfl (by decide) (by decide) (ok_imul 15 rfl rfl (by first | omega | (simp [up_if]; omega) | (simp [up_if] at *; omega)) (ok_iload_n 16 rfl rfl rfl (ok_iadd 17 rfl rfl (by first | omega | (simp [up_if]; omega) | (simp [up_if] at *; omega)) (ok_ist5 18 rfl rfl rfl (ok_aload_n 19 rfl rfl rfl (ok_getR 20 rfl rfl fl_X6_11 rfl rfl (ok_iload 21 rfl rfl rfl (ok_iald 22 rfl rfl rfl (by first | omega | (simp [up_if]; omega) | (simp [up_if] at *; omega)) (ok_aload_n 23 rfl rfl rfl (ok_getR 24 rfl rfl fl_X6_18 rfl rfl (ok_iload 25 rfl rfl rfl (ok_iald 26 rfl rfl rfl (by first | omega | (simp [up_if]; omega) | (simp [up_if] at *; omega)) (ok_icmp_ge 27 61 rfl rfl rfl (fun h44 => ?_) (fun h44 => ?_))))))))))))))
        · refine ok_aload_n 37 rfl rfl rfl (ok_getR 38 rfl rfl fl_X6_11 rfl rfl (ok_iload_n 39 rfl rfl rfl (ok_bipush 40 rfl rfl (by decide) (by decide) (ok_imul 41 rfl rfl (by first | omega | (simp [up_if]; omega) | (simp [up_if] at *; omega)) (ok_aload_n 42 rfl rfl rfl (ok_getR 43 rfl rfl fl_X6_21 rfl rfl (ok_iload_n 44 rfl rfl rfl (ok_iald 45 rfl rfl rfl (by first | omega | (simp [up_if]; omega) | (simp [up_if] at *; omega)) ?_))))))))
          rw [en, ← em]
          refine ok_iadd 46 rfl rfl (by first | omega | (simp [up_if]; omega) | (simp [up_if] at *; omega)) (ok_dup2 47 rfl rfl ⟨rfl, rfl⟩ (ok_iald 48 rfl rfl rfl (by first | omega | (simp [up_if]; omega) | (simp [up_if] at *; omega)) (ok_iconst 49 rfl rfl (by decide) (ok_isub 50 rfl rfl (by first | omega | (simp [up_if]; omega) | (simp [up_if] at *; omega)) (ok_iast 51 rfl rfl rfl (by first | omega | (simp [up_if]; omega) | (simp [up_if] at *; omega)) ?_)))))
          first
            | (refine t2' _ _ (fr_up f rfl) (fun v w v1 v2 w1 w2 => ?_) (fun v w v1 v2 w1 w2 => ?_) (fun v v1 v2 => ex_add (p := m) (q := n) (d := 1) y1 n1 (fun v w v1 v2 w1 w2 => ?_) ⟨v1, v2⟩) (fun v w v1 v2 w1 w2 u => ?_)
               · rw [xF_up n1 ⟨w1, w2⟩]
                 by_cases c : v = m ∧ w = n
                 · rw [if_pos c, c.1, c.2]; omega
                 · rw [if_neg c]; exact fb v w v1 v2 w1 w2
               · rw [xF_up n1 ⟨w1, w2⟩]
                 by_cases c : v = m ∧ w = n
                 · rw [if_pos c, c.1, c.2]; omega
                 · rw [if_neg c]; exact lo v w v1 v2 w1 w2
               · rw [xF_up n1 ⟨w1, w2⟩]
                 by_cases c : v = m ∧ w = n
                 · rw [if_pos c, if_pos c, c.1, c.2, x1]
                 · rw [if_neg c, if_neg c]
               · rw [xF_up n1 ⟨w1, w2⟩, if_neg (fun c => u (Or.inl c))])
            | (refine t2' _ _ (fr_up f rfl) (fun v w v1 v2 w1 w2 => ?_) (fun v w v1 v2 w1 w2 => ?_) (fun v v1 v2 => ?_) (fun v w v1 v2 w1 w2 u => ?_)
               · rw [xF_up y1 ⟨w1, w2⟩]
                 by_cases c : v = n ∧ w = m
                 · rw [if_pos c, c.1, c.2]; omega
                 · rw [if_neg c]; exact fb v w v1 v2 w1 w2
               · rw [xF_up y1 ⟨w1, w2⟩]
                 by_cases c : v = n ∧ w = m
                 · rw [if_pos c, c.1, c.2]; omega
                 · rw [if_neg c]; exact lo v w v1 v2 w1 w2
               · rw [ex_add (x := xF ρ) (p := n) (q := m) (d := -1) n1 y1 (fun v w v1 v2 w1 w2 => by
                   rw [xF_up y1 ⟨w1, w2⟩]
                   by_cases c : v = n ∧ w = m
                   · rw [if_pos c, if_pos c, c.1, c.2, x2]; omega
                   · rw [if_neg c, if_neg c]) ⟨v1, v2⟩]
                 by_cases p : v = m <;> by_cases q : v = n
                 · omega
                 · rw [if_pos p, if_neg q, if_pos p, if_neg q]; omega
                 · rw [if_neg p, if_pos q, if_neg p, if_pos q]; omega
                 · rw [if_neg p, if_neg q, if_neg p, if_neg q]
               · rw [xF_up y1 ⟨w1, w2⟩, if_neg (fun c => u (Or.inr c))])
        · refine ok_aload_n 28 rfl rfl rfl (ok_getR 29 rfl rfl fl_X6_11 rfl rfl (ok_iload 30 rfl rfl rfl (ok_dup2 31 rfl rfl ⟨rfl, rfl⟩ (ok_iald 32 rfl rfl rfl (by first | omega | (simp [up_if]; omega) | (simp [up_if] at *; omega)) (ok_iconst 33 rfl rfl (by decide) (ok_iadd 34 rfl rfl (by first | omega | (simp [up_if]; omega) | (simp [up_if] at *; omega)) (ok_iast 35 rfl rfl rfl (by first | omega | (simp [up_if]; omega) | (simp [up_if] at *; omega)) (ok_goto 36 81 rfl rfl rfl ?_))))))))
          first
            | (refine t2' _ _ (fr_up f rfl) (fun v w v1 v2 w1 w2 => ?_) (fun v w v1 v2 w1 w2 => ?_) (fun v v1 v2 => ex_add (p := m) (q := n) (d := 1) y1 n1 (fun v w v1 v2 w1 w2 => ?_) ⟨v1, v2⟩) (fun v w v1 v2 w1 w2 u => ?_)
               · rw [xF_up n1 ⟨w1, w2⟩]
                 by_cases c : v = m ∧ w = n
                 · rw [if_pos c, c.1, c.2]; omega
                 · rw [if_neg c]; exact fb v w v1 v2 w1 w2
               · rw [xF_up n1 ⟨w1, w2⟩]
                 by_cases c : v = m ∧ w = n
                 · rw [if_pos c, c.1, c.2]; omega
                 · rw [if_neg c]; exact lo v w v1 v2 w1 w2
               · rw [xF_up n1 ⟨w1, w2⟩]
                 by_cases c : v = m ∧ w = n
                 · rw [if_pos c, if_pos c, c.1, c.2, x1]
                 · rw [if_neg c, if_neg c]
               · rw [xF_up n1 ⟨w1, w2⟩, if_neg (fun c => u (Or.inl c))])
            | (refine t2' _ _ (fr_up f rfl) (fun v w v1 v2 w1 w2 => ?_) (fun v w v1 v2 w1 w2 => ?_) (fun v v1 v2 => ?_) (fun v w v1 v2 w1 w2 u => ?_)
               · rw [xF_up y1 ⟨w1, w2⟩]
                 by_cases c : v = n ∧ w = m
                 · rw [if_pos c, c.1, c.2]; omega
                 · rw [if_neg c]; exact fb v w v1 v2 w1 w2
               · rw [xF_up y1 ⟨w1, w2⟩]
                 by_cases c : v = n ∧ w = m
                 · rw [if_pos c, c.1, c.2]; omega
                 · rw [if_neg c]; exact lo v w v1 v2 w1 w2
               · rw [ex_add (x := xF ρ) (p := n) (q := m) (d := -1) n1 y1 (fun v w v1 v2 w1 w2 => by
                   rw [xF_up y1 ⟨w1, w2⟩]
                   by_cases c : v = n ∧ w = m
                   · rw [if_pos c, if_pos c, c.1, c.2, x2]; omega
                   · rw [if_neg c, if_neg c]) ⟨v1, v2⟩]
                 by_cases p : v = m <;> by_cases q : v = n
                 · omega
                 · rw [if_pos p, if_neg q, if_pos p, if_neg q]; omega
                 · rw [if_neg p, if_pos q, if_neg p, if_pos q]; omega
                 · rw [if_neg p, if_neg q, if_neg p, if_neg q]
               · rw [xF_up y1 ⟨w1, w2⟩, if_neg (fun c => u (Or.inr c))])
end
section
/-! ROUNDING, the class: bounds, lows met, cells lessened -/
theorem t_Ro_setBounds {σ : eS} {f t r b : Int} (hf : 0 ≤ f ∧ f < 18) (ht : 0 ≤ t ∧ t < 18) (hr : 0 ≤ r ∧ r ≤ 64000000) (hb : 1 ≤ b) : MtV shA M_Ro_setBounds [vr 40, vi f, vi t, vi r, vi b] σ (fun σ' => σ' = up (up σ 42 (f * 18 + t) (loB' b r)) 43 (f * 18 + t) (hiB' b r)) := by
  refine Mt.of okM_Ro_setBounds (Nat.le_of_ble_eq_true rfl) (fun hk hg => ?_)
  have q := lohi hb hr.1
  have q2 : loB' b r ≤ r := Int.ediv_le_self _ hr.1
  have e1 : loB' b r = r / b := rfl
  refine ok_iload_n 0 rfl rfl rfl (ok_bipush 1 rfl rfl (by decide) (by decide) (ok_imul 2 rfl rfl (by first | omega | (simp [up_if]; omega) | (simp [up_if] at *; omega)) (ok_iload_n 3 rfl rfl rfl (ok_iadd 4 rfl rfl (by first | omega | (simp [up_if]; omega) | (simp [up_if] at *; omega)) (ok_ist5 5 rfl rfl rfl (ok_aload_n 6 rfl rfl rfl (ok_getR 7 rfl rfl fl_X6_15 rfl rfl (ok_iload 8 rfl rfl rfl (ok_iload_n 9 rfl rfl rfl (ok_iload 10 rfl rfl rfl (ok_idiv 11 rfl rfl (by first | omega | (simp [up_if]; omega) | (simp [up_if] at *; omega)) (by first | omega | (simp [up_if]; omega) | (simp [up_if] at *; omega)) (ok_iast 12 rfl rfl rfl (by first | omega | (simp [up_if]; omega) | (simp [up_if] at *; omega)) (ok_aload_n 13 rfl rfl rfl (ok_getR 14 rfl rfl fl_X6_18 rfl rfl (ok_iload 15 rfl rfl rfl (ok_iload_n 16 rfl rfl rfl (ok_iload 17 rfl rfl rfl (ok_irem 18 rfl rfl (by first | omega | (simp [up_if]; omega) | (simp [up_if] at *; omega)) (by first | omega | (simp [up_if]; omega) | (simp [up_if] at *; omega)) (ok_if_ne 19 42 rfl rfl rfl (fun h29 => ?_) (fun h29 => ?_))))))))))))))))))))
  · refine ok_aload_n 25 rfl rfl rfl (ok_getR 26 rfl rfl fl_X6_15 rfl rfl (ok_iload 27 rfl rfl rfl (ok_iald 28 rfl rfl rfl (by first | omega | (simp [up_if]; omega) | (simp [up_if] at *; omega)) (ok_iconst 29 rfl rfl (by decide) (ok_iadd 30 rfl rfl (by first | omega | (simp [up_if]; omega) | (simp [up_if] at *; omega)) (ok_iast 31 rfl rfl rfl (by first | omega | (simp [up_if]; omega) | (simp [up_if] at *; omega)) (ok_vret 32 rfl rfl rfl ?_)))))))
    refine ⟨rfl, ?_⟩
    unfold loB' hiB'
    first | (rw [if_pos (by omega)]; simp [up_if]; done) | (rw [if_neg (by omega)]; simp [up_if]; done)
  · refine ok_aload_n 20 rfl rfl rfl (ok_getR 21 rfl rfl fl_X6_15 rfl rfl (ok_iload 22 rfl rfl rfl (ok_iald 23 rfl rfl rfl (by first | omega | (simp [up_if]; omega) | (simp [up_if] at *; omega)) (ok_goto 24 51 rfl rfl rfl (ok_iast 31 rfl rfl rfl (by first | omega | (simp [up_if]; omega) | (simp [up_if] at *; omega)) (ok_vret 32 rfl rfl rfl ?_))))))
    refine ⟨rfl, ?_⟩
    unfold loB' hiB'
    first | (rw [if_pos (by omega)]; simp [up_if]; done) | (rw [if_neg (by omega)]; simp [up_if]; done)
theorem lF_up {ρ : eS} {p q y z v w : Int} (hq : 0 ≤ q ∧ q < 18) (hw : 0 ≤ w ∧ w < 18) : lF (up (up ρ 42 (p * 18 + q) y) 43 (p * 18 + q) z) v w = (if v = p ∧ w = q then y else lF ρ v w) ∧ hF (up (up ρ 42 (p * 18 + q) y) 43 (p * 18 + q) z) v w = if v = p ∧ w = q then z else hF ρ v w := by
  unfold lF hF
  by_cases c : v = p ∧ w = q
  · refine ⟨?_, ?_⟩
    · rw [if_pos c, c.1, c.2, up_ne _ _ _ _ (by decide), up_same]
    · rw [if_pos c, c.1, c.2, up_same]
  · refine ⟨?_, ?_⟩
    · rw [if_neg c, up_ne _ _ _ _ (by decide), up_nk _ _ _ _ (by omega)]
    · rw [if_neg c, up_nk _ _ _ _ (by omega), up_ne _ _ _ _ (by decide)]
/-- all that a ring's flow keeps -/
def rngK (x l h : Int → Int → Int) : Prop := cirN x ∧ FB x l h
theorem t_Ro_meetLow {σ : eS} {a b c : Int} {Y : Int → Int → Int} (ha : 0 ≤ a ∧ a < 18) (hb : 0 ≤ b ∧ b < 18) (hab : a ≠ b) (hc : 1 ≤ c) (hK : rngK (xF σ) (lF σ) (hF σ)) (hY : cirN Y) (hYb : ∀ v w, 0 ≤ v → v < 18 → 0 ≤ w → w < 18 → c * lF σ v w ≤ Y v w ∧ Y v w ≤ c * hF σ v w) (hlh : ∀ v w, 0 ≤ v → v < 18 → 0 ≤ w → w < 18 → lF σ v w ≤ hF σ v w) (hl64 : lF σ a b ≤ 64) (h0 : hF σ b a = 0) : MtV shA M_Ro_meetLow [vr 40, vi a, vi b] σ (fun σ' => fr (fun c _ => c = 41 ∨ c = 44 ∨ c = 45) σ σ' ∧ rngK (xF σ') (lF σ) (hF σ) ∧ (∀ v w, 0 ≤ v → v < 18 → 0 ≤ w → w < 18 → min (xF σ v w) (lF σ v w) ≤ xF σ' v w) ∧ lF σ a b ≤ xF σ' a b) := by
  refine Mt.of okM_Ro_meetLow (Nat.le_of_ble_eq_true rfl) (fun hk hg => ?_)
  refine ok_iload_n 0 rfl rfl rfl (ok_bipush 1 rfl rfl (by decide) (by decide) (ok_imul 2 rfl rfl (by first | omega | (simp [up_if]; omega) | (simp [up_if] at *; omega)) (ok_iload_n 3 rfl rfl rfl (ok_iadd 4 rfl rfl (by first | omega | (simp [up_if]; omega) | (simp [up_if] at *; omega)) (ok_ist3 5 rfl rfl rfl (ok_iconst 6 rfl rfl (by decide) (ok_ist4 7 rfl rfl rfl ?_)))))))
  refine lpO2 (fun (i : Int) (_ : eS) => [some (vr 40), some (vi a), some (vi b), some (vi (a * 18 + b)), some (vi i)]) (fun _ ρ => ρ) (fun i ρ => 0 ≤ i ∧ i ≤ 64 ∧ fr (fun c _ => c = 41 ∨ c = 44 ∨ c = 45) σ ρ ∧ rngK (xF ρ) (lF σ) (hF σ) ∧ (∀ v w, 0 ≤ v → v < 18 → 0 ≤ w → w < 18 → min (xF σ v w) (lF σ v w) ≤ xF ρ v w) ∧ (i ≤ xF ρ a b ∨ lF σ a b ≤ xF ρ a b)) (fun i _ => (64 - i).toNat) ?_ 0 σ ⟨by omega, by omega, fr.rf, hK, fun v w _ _ _ _ => by omega, Or.inl (hK.2 a b ha.1 ha.2 hb.1 hb.2).1⟩
  rintro i ρ ⟨i1, i2, f, ⟨k1, k2⟩, lo, hi⟩ ih
  have el : lF ρ = lF σ := by funext v w; exact f 42 _ (by simp)
  have eh : hF ρ = hF σ := by funext v w; exact f 43 _ (by simp)
  have xab : ρ 41 (a * 18 + b) = xF ρ a b := rfl
  have lab : ρ 42 (a * 18 + b) = lF σ a b := by rw [← el]; rfl
  have fab := k2 a b ha.1 ha.2 hb.1 hb.2
  have fba := k2 b a hb.1 hb.2 ha.1 ha.2
  have lab2 := hlh a b ha.1 ha.2 hb.1 hb.2
  refine ok_iload 8 rfl rfl rfl (ok_bipush 9 rfl rfl (by decide) (by decide) (ok_icmp_ge 10 63 rfl rfl rfl (fun h14 => ?_) (fun h14 => ?_)))
  · refine ok_vret 39 rfl rfl rfl ?_
    exact ⟨rfl, f, ⟨k1, k2⟩, lo, by omega⟩
  · refine ok_aload_n 11 rfl rfl rfl (ok_getR 12 rfl rfl fl_X6_11 rfl rfl (ok_iload_n 13 rfl rfl rfl (ok_iald 14 rfl rfl rfl (by first | omega | (simp [up_if]; omega) | (simp [up_if] at *; omega)) (ok_aload_n 15 rfl rfl rfl (ok_getR 16 rfl rfl fl_X6_15 rfl rfl (ok_iload_n 17 rfl rfl rfl (ok_iald 18 rfl rfl rfl (by first | omega | (simp [up_if]; omega) | (simp [up_if] at *; omega)) (ok_icmp_ge 19 63 rfl rfl rfl (fun h29 => ?_) (fun h29 => ?_)))))))))
    · refine ok_vret 39 rfl rfl rfl ?_
      exact ⟨rfl, f, ⟨k1, k2⟩, lo, by omega⟩
    · have nop : ¬ opF ρ b a := by unfold opF; rw [el, eh, h0]; omega
      refine ok_aload_n 20 rfl rfl rfl (ok_iload_n 21 rfl rfl rfl (ok_iload_n 22 rfl rfl rfl (ok_callVI (M' := M_Ro_findWay) (as := [_, _]) 23 rfl rfl ml_X6_73 (t_Ro_findWay hb ha (fun q => hab q.symm)) rfl rfl (Nat.le_of_ble_eq_true rfl) ⟨Nat.le_of_ble_eq_true rfl, Nat.le_of_ble_eq_true rfl⟩ rfl (Nat.le_of_ble_eq_true rfl) (fun τ z g => ?_))))
      refine ok_if_eq 24 57 rfl rfl rfl (fun h38 => ?_) (fun h38 => ?_)
      · exfalso
        obtain ⟨g1, g2⟩ := g
        rcases g2 with q | ⟨-, S, s1, s2, s3⟩
        · omega
        · have cx : cirN (fun v w => c * xF ρ v w) := fun v v1 v2 => by
            have := k1 v v1 v2
            unfold exN at *
            rw [sm_ml, sm_ml, ← Int.mul_sub, this, Int.mul_zero]
          have op := fun v w v1 v2 w1 w2 p q => s3 v w v1 v2 w1 w2 p q
          have r := cutN (x := fun v w => c * xF ρ v w) (y := Y) (S := S) cx hY (fun v w v1 v2 w1 w2 p q => by
            have n := op v w v1 v2 w1 w2 p q
            unfold opF at n
            rw [el, eh] at n
            have y := (hYb v w v1 v2 w1 w2).2
            exact Int.le_trans y (Int.mul_le_mul_of_nonneg_left (by omega) (by omega))) (fun v w v1 v2 w1 w2 p q => by
            have n := op w v w1 w2 v1 v2 q p
            unfold opF at n
            rw [el, eh] at n
            have y := (hYb v w v1 v2 w1 w2).1
            exact Int.le_trans (Int.mul_le_mul_of_nonneg_left (by omega) (by omega)) y) ha hb (Or.inr ⟨s2, s1⟩)
          have y := (hYb a b ha.1 ha.2 hb.1 hb.2).1
          have z1 : c * xF ρ a b + c ≤ c * lF σ a b := by
            have := Int.mul_le_mul_of_nonneg_left (show xF ρ a b + 1 ≤ lF σ a b by omega) (show 0 ≤ c by omega)
            rw [Int.mul_add, Int.mul_one] at this
            exact this
          (try dsimp only at r)
          omega
      · obtain ⟨g1, g2⟩ := g
        have gy : wayY τ (opF ρ) b a := by
          rcases g2 with q | q
          · exact q.2
          · omega
        have tx : xF τ = xF ρ := by funext v w; exact g1 41 _ (by simp [rgBf])
        have tl : lF τ = lF σ := by rw [← el]; funext v w; exact g1 42 _ (by simp [rgBf])
        have th : hF τ = hF σ := by rw [← eh]; funext v w; exact g1 43 _ (by simp [rgBf])
        have top : opF τ = opF ρ := by funext v w; exact propext (opF_cg g1 v w)
        refine ok_aload_n 25 rfl rfl rfl (ok_iload_n 26 rfl rfl rfl (ok_iload_n 27 rfl rfl rfl (ok_callVV (M' := M_Ro_flowAlong) (as := [_, _]) 28 rfl rfl ml_X6_77 (t_Ro_flowAlong hb ha (fun q => hab q.symm) (by rw [tx, tl, th]; exact k2) (by rw [top]; exact gy)) rfl rfl (Nat.le_of_ble_eq_true rfl) ⟨Nat.le_of_ble_eq_true rfl, Nat.le_of_ble_eq_true rfl⟩ rfl (Nat.le_of_ble_eq_true rfl) (fun υ u => ?_))))
        obtain ⟨u1, u2, u3, u4, u5⟩ := u
        rw [tl, th] at u2
        rw [tx, tl] at u3
        rw [tx] at u4 u5
        rw [top] at u5
        obtain ⟨-, u7⟩ := u5 nop
        have xu : υ 41 (a * 18 + b) = xF υ a b := rfl
        refine ok_aload_n 29 rfl rfl rfl (ok_getR 30 rfl rfl fl_X6_11 rfl rfl (ok_iload_n 31 rfl rfl rfl (ok_dup2 32 rfl rfl ⟨rfl, rfl⟩ (ok_iald 33 rfl rfl rfl (by first | omega | (simp [up_if]; omega) | (simp [up_if] at *; omega)) (ok_iconst 34 rfl rfl (by decide) (ok_iadd 35 rfl rfl (by first | omega | (simp [up_if]; omega) | (simp [up_if] at *; omega)) (ok_iast 36 rfl rfl rfl (by first | omega | (simp [up_if]; omega) | (simp [up_if] at *; omega)) (ok_inc4 37 rfl rfl rfl (by first | omega | (simp [up_if]; omega) | (simp [up_if] at *; omega)) (ok_goto 38 10 rfl rfl rfl ?_)))))))))
        refine ih (i + 1) _ ⟨by omega, by omega, fr_up (((f.tr (g1.mono (fun c k w => by simp only [rgBf] at w; omega))).tr (u1.mono (fun c k w => Or.inl w)))) (Or.inl rfl), ⟨fun v v1 v2 => ?_, fun v w v1 v2 w1 w2 => ?_⟩, fun v w v1 v2 w1 w2 => ?_, ?_⟩ (by omega)
        · rw [ex_add (x := xF υ) (p := a) (q := b) (d := 1) ha hb (fun v w v1 v2 w1 w2 => by
            rw [xF_up hb ⟨w1, w2⟩]
            by_cases c : v = a ∧ w = b
            · rw [if_pos c, if_pos c, c.1, c.2, xu]
            · rw [if_neg c, if_neg c]) ⟨v1, v2⟩, u4 v v1 v2, k1 v v1 v2]
          omega
        · rw [xF_up hb ⟨w1, w2⟩]
          by_cases c : v = a ∧ w = b
          · have := u2 a b ha.1 ha.2 hb.1 hb.2
            rw [if_pos c, c.1, c.2]; omega
          · rw [if_neg c]; exact u2 v w v1 v2 w1 w2
        · rw [xF_up hb ⟨w1, w2⟩]
          have q1 := lo v w v1 v2 w1 w2
          have q2 := u3 v w v1 v2 w1 w2
          by_cases c : v = a ∧ w = b
          · rw [if_pos c]
            rw [c.1, c.2] at q1 q2 ⊢
            omega
          · rw [if_neg c]; omega
        · rw [xF_up hb hb, if_pos ⟨rfl, rfl⟩]; omega
end
section
/-! ROUNDING, the class: the ring of a table -/
def LOf (n b : Int) (R : Int → Int → Int) : Int → Int → Int := riF n (fun i => loB' b (sm (fun j => R i j) n.toNat)) (fun i j => loB' b (R i j)) (fun j => loB' b (sm (fun i => R i j) n.toNat)) (loB' b (sm (fun i => sm (fun j => R i j) n.toNat) n.toNat))
def HIf (n b : Int) (R : Int → Int → Int) : Int → Int → Int := riF n (fun i => hiB' b (sm (fun j => R i j) n.toNat)) (fun i j => hiB' b (R i j)) (fun j => hiB' b (sm (fun i => R i j) n.toNat)) (hiB' b (sm (fun i => sm (fun j => R i j) n.toNat) n.toNat))
section K27
variable {n b : Int} {R y : Int → Int → Int}
/-- a word on each channel -/
theorem rg_all {P : Int → Int → Int → Prop} {s1 s2 s3 : Int → Int} {m1 m2 m3 : Int → Int → Int} {k1 k2 k3 : Int → Int} {a1 a2 a3 : Int} (hs : ∀ i, 0 ≤ i → i < n → P (s1 i) (s2 i) (s3 i)) (hm : ∀ i j, 0 ≤ i → i < n → 0 ≤ j → j < n → P (m1 i j) (m2 i j) (m3 i j)) (hk : ∀ j, 0 ≤ j → j < n → P (k1 j) (k2 j) (k3 j)) (ha : P a1 a2 a3) (h0 : P 0 0 0) (v w : Int) : P (riF n s1 m1 k1 a1 v w) (riF n s2 m2 k2 a2 v w) (riF n s3 m3 k3 a3 v w) := by
  unfold riF
  by_cases c0 : v = 0 ∧ 1 ≤ w ∧ w < 1 + n
  · rw [if_pos c0, if_pos c0, if_pos c0]; exact hs _ (by omega) (by omega)
  · rw [if_neg c0, if_neg c0, if_neg c0]
    by_cases c1 : (1 ≤ v ∧ v < 1 + n) ∧ 9 ≤ w ∧ w < 9 + n
    · rw [if_pos c1, if_pos c1, if_pos c1]; exact hm _ _ (by omega) (by omega) (by omega) (by omega)
    · rw [if_neg c1, if_neg c1, if_neg c1]
      by_cases c2 : (9 ≤ v ∧ v < 9 + n) ∧ w = 17
      · rw [if_pos c2, if_pos c2, if_pos c2]; exact hk _ (by omega) (by omega)
      · rw [if_neg c2, if_neg c2, if_neg c2]
        by_cases c3 : v = 17 ∧ w = 0
        · rw [if_pos c3, if_pos c3, if_pos c3]; exact ha
        · rw [if_neg c3, if_neg c3, if_neg c3]; exact h0
theorem sum_bd (hn : 0 ≤ n ∧ n ≤ 8) {B : Int} (hB : 0 ≤ B) (hR : ∀ i j, 0 ≤ i → i < n → 0 ≤ j → j < n → 0 ≤ R i j ∧ R i j ≤ B) : (∀ i, 0 ≤ i → i < n → 0 ≤ sm (fun j => R i j) n.toNat ∧ sm (fun j => R i j) n.toNat ≤ B * 8) ∧ (∀ j, 0 ≤ j → j < n → 0 ≤ sm (fun i => R i j) n.toNat ∧ sm (fun i => R i j) n.toNat ≤ B * 8) ∧ 0 ≤ sm (fun i => sm (fun j => R i j) n.toNat) n.toNat ∧ sm (fun i => sm (fun j => R i j) n.toNat) n.toNat ≤ B * 8 * 8 := by
  have up : ∀ {C x : Int}, 0 ≤ C → x ≤ C * (n.toNat : Int) → x ≤ C * 8 := fun {C x} hC h => Int.le_trans h (Int.mul_le_mul_of_nonneg_left (by omega) hC)
  have r : ∀ i, 0 ≤ i → i < n → 0 ≤ sm (fun j => R i j) n.toNat ∧ sm (fun j => R i j) n.toNat ≤ B * 8 := fun i a b => by
    have := sm_bd (f := fun j => R i j) hB (n := n.toNat) (fun j c d => hR i j a b c (by omega))
    exact ⟨this.1, up hB this.2⟩
  refine ⟨r, fun j a b => ?_, ?_⟩
  · have := sm_bd (f := fun i => R i j) hB (n := n.toNat) (fun i c d => hR i j c (by omega) a b)
    exact ⟨this.1, up hB this.2⟩
  · have := sm_bd (f := fun i => sm (fun j => R i j) n.toNat) (B := B * 8) (by omega) (n := n.toNat) (fun i c d => r i c (by omega))
    exact ⟨this.1, up (by omega) this.2⟩
theorem lo_64 {s : Int} (hb : 1 ≤ b) (h : s ≤ 64 * b) : loB' b s ≤ 64 := by
  unfold loB'
  exact Int.ediv_le_of_le_mul (by omega) (by omega)
/-- what the bounds are -/
theorem LH_bd (hn : 0 ≤ n ∧ n ≤ 8) (hb : 1 ≤ b) (hR : ∀ i j, 0 ≤ i → i < n → 0 ≤ j → j < n → 0 ≤ R i j ∧ R i j < b) (v w : Int) : b * LOf n b R v w ≤ rgZ n R v w ∧ rgZ n R v w ≤ b * HIf n b R v w ∧ LOf n b R v w ≤ HIf n b R v w ∧ 0 ≤ LOf n b R v w ∧ LOf n b R v w ≤ 64 ∧ HIf n b R v w ≤ 65 := by
  obtain ⟨q1, q2, q3, q4⟩ := sum_bd hn (B := b) (by omega) (fun i j a b c d => ⟨(hR i j a b c d).1, by have := (hR i j a b c d).2; omega⟩)
  have one : ∀ {s : Int}, 0 ≤ s → s ≤ 64 * b → b * loB' b s ≤ s ∧ s ≤ b * hiB' b s ∧ loB' b s ≤ hiB' b s ∧ 0 ≤ loB' b s ∧ loB' b s ≤ 64 ∧ hiB' b s ≤ 65 := fun {s} h1 h2 => by
    obtain ⟨a1, a2, a3, a4, a5⟩ := lohi hb h1
    have := lo_64 hb h2
    exact ⟨a2, a3, a4, a1, this, by omega⟩
  unfold LOf HIf rgZ
  refine rg_all (P := fun x y z => b * x ≤ y ∧ y ≤ b * z ∧ x ≤ z ∧ 0 ≤ x ∧ x ≤ 64 ∧ z ≤ 65) (fun i a c => ?_) (fun i j a c d e => ?_) (fun j a c => ?_) ?_ ?_ v w
  · exact one (q1 i a c).1 (by have := (q1 i a c).2; omega)
  · exact one (hR i j a c d e).1 (by have := (hR i j a c d e).2; omega)
  · exact one (q2 j a c).1 (by have := (q2 j a c).2; omega)
  · exact one q3 (by omega)
  · exact ⟨by rw [Int.mul_zero]; exact Int.le_refl _, by rw [Int.mul_zero]; exact Int.le_refl _, by decide, by decide, by decide, by decide⟩
/-- a way to round, as a ring -/
theorem fit_rg (h : fitR n b R y) (v w : Int) : LOf n b R v w ≤ rgZ n y v w ∧ rgZ n y v w ≤ HIf n b R v w := by
  unfold LOf HIf rgZ
  exact rg_all (P := fun x y z => x ≤ y ∧ y ≤ z) (fun i a c => h.2.1 i a c) (fun i j a c d e => h.1 i j a c d e) (fun j a c => h.2.2.1 j a c) h.2.2.2 ⟨by decide, by decide⟩ v w
/-- and back: a ring's flow within the bounds is a way to round -/
theorem rg_fit {x : Int → Int → Int} (hn : 0 ≤ n ∧ n ≤ 8) (hc : cirN x) (hx : ∀ v w, 0 ≤ v → v < 18 → 0 ≤ w → w < 18 → LOf n b R v w ≤ x v w ∧ x v w ≤ HIf n b R v w) : fitR n b R (fun i j => x (1 + i) (9 + j)) ∧ ∀ v w, 0 ≤ v → v < 18 → 0 ≤ w → w < 18 → x v w = riF n (fun i => x 0 (1 + i)) (fun i j => x (1 + i) (9 + j)) (fun j => x (9 + j) 17) (x 17 0) v w := by
  have e : ∀ v w, 0 ≤ v → v < 18 → 0 ≤ w → w < 18 → x v w = riF n (fun i => x 0 (1 + i)) (fun i j => x (1 + i) (9 + j)) (fun j => x (9 + j) 17) (x 17 0) v w := fun v w v1 v2 w1 w2 => by
    have q := hx v w v1 v2 w1 w2
    unfold LOf HIf at q
    unfold riF at q ⊢
    by_cases c0 : v = 0 ∧ 1 ≤ w ∧ w < 1 + n
    · rw [if_pos c0, c0.1]; show x 0 w = x 0 (1 + (w - 1)); rw [show 1 + (w - 1) = w by omega]
    · rw [if_neg c0]
      by_cases c1 : (1 ≤ v ∧ v < 1 + n) ∧ 9 ≤ w ∧ w < 9 + n
      · rw [if_pos c1]; show x v w = x (1 + (v - 1)) (9 + (w - 9)); rw [show 1 + (v - 1) = v by omega, show 9 + (w - 9) = w by omega]
      · rw [if_neg c1]
        by_cases c2 : (9 ≤ v ∧ v < 9 + n) ∧ w = 17
        · rw [if_pos c2, c2.2]; show x v 17 = x (9 + (v - 9)) 17; rw [show 9 + (v - 9) = v by omega]
        · rw [if_neg c2]
          by_cases c3 : v = 17 ∧ w = 0
          · rw [if_pos c3, c3.1, c3.2]
          · rw [if_neg c3]
            rw [if_neg c0, if_neg c1, if_neg c2, if_neg c3, if_neg c0, if_neg c1, if_neg c2, if_neg c3] at q
            omega
  obtain ⟨k1, k2, k3⟩ := cir_ri hn (cirN_cg e hc)
  have at0 : ∀ i, 0 ≤ i → i < n → LOf n b R 0 (1 + i) = loB' b (sm (fun j => R i j) n.toNat) ∧ HIf n b R 0 (1 + i) = hiB' b (sm (fun j => R i j) n.toNat) := fun i a c => by
    unfold LOf HIf riF
    rw [if_pos (by omega), if_pos (by omega), show 1 + i - 1 = i by omega]; exact ⟨rfl, rfl⟩
  have at1 : ∀ i j, 0 ≤ i → i < n → 0 ≤ j → j < n → LOf n b R (1 + i) (9 + j) = loB' b (R i j) ∧ HIf n b R (1 + i) (9 + j) = hiB' b (R i j) := fun i j a c d f => by
    unfold LOf HIf riF
    rw [if_neg (by omega), if_pos (by omega), if_neg (by omega), if_pos (by omega), show 1 + i - 1 = i by omega, show 9 + j - 9 = j by omega]; exact ⟨rfl, rfl⟩
  have at2 : ∀ j, 0 ≤ j → j < n → LOf n b R (9 + j) 17 = loB' b (sm (fun i => R i j) n.toNat) ∧ HIf n b R (9 + j) 17 = hiB' b (sm (fun i => R i j) n.toNat) := fun j a c => by
    unfold LOf HIf riF
    rw [if_neg (by omega), if_neg (by omega), if_pos (by omega), if_neg (by omega), if_neg (by omega), if_pos (by omega), show 9 + j - 9 = j by omega]; exact ⟨rfl, rfl⟩
  have at3 : LOf n b R 17 0 = loB' b (sm (fun i => sm (fun j => R i j) n.toNat) n.toNat) ∧ HIf n b R 17 0 = hiB' b (sm (fun i => sm (fun j => R i j) n.toNat) n.toNat) := by
    unfold LOf HIf riF
    rw [if_neg (by omega), if_neg (by omega), if_neg (by omega), if_pos (by omega), if_neg (by omega), if_neg (by omega), if_neg (by omega), if_pos (by omega)]; exact ⟨rfl, rfl⟩
  refine ⟨⟨fun i j a c d f => ?_, fun i a c => ?_, fun j a c => ?_, ?_⟩, e⟩
  · have q := hx (1 + i) (9 + j) (by omega) (by omega) (by omega) (by omega)
    rw [(at1 i j a c d f).1, (at1 i j a c d f).2] at q
    exact q
  · have q := hx 0 (1 + i) (by omega) (by omega) (by omega) (by omega)
    rw [(at0 i a c).1, (at0 i a c).2] at q
    rw [← k1 i a c]
    exact q
  · have q := hx (9 + j) 17 (by omega) (by omega) (by omega) (by omega)
    rw [(at2 j a c).1, (at2 j a c).2] at q
    rw [← k2 j a c]
    exact q
  · have q := hx 17 0 (by omega) (by omega) (by omega) (by omega)
    rw [at3.1, at3.2] at q
    have z : sm (fun i => sm (fun j => x (1 + i) (9 + j)) n.toNat) n.toNat = x 17 0 := by
      rw [k3]
      exact sm_cg (fun i a c => (k1 i a (by omega)).symm)
    rw [z]
    exact q
end K27
end
