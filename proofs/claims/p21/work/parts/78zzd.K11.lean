/-! MIXING: powers of the joins, on both sides -/
def pwR (n : Int) (W : Int → Int → Int) : Nat → Int → Int → Prop
  | 0 => fun i j => 1 ≤ W i j
  | m + 1 => fun i j => ∃ k, 0 ≤ k ∧ k < n ∧ pwR n W m i k ∧ 1 ≤ W k j
def fuR (n : Int) (op : Int → Int → Prop) : Prop := ∀ i j, 0 ≤ i → i < n → 0 ≤ j → j < n → op i j
def mxG (n : Int) (W : Int → Int → Int) (z : Int) : Prop := (z = -1 ∧ ∀ m : Int, 1 ≤ m → m ≤ 64 → ¬ fuR n (pwR n W (m - 1).toNat)) ∨ ((1 ≤ z ∧ z ≤ 64) ∧ fuR n (pwR n W (z - 1).toNat) ∧ ∀ m : Int, 1 ≤ m → m < z → ¬ fuR n (pwR n W (m - 1).toNat))
theorem pwR_cg {n : Int} {W V : Int → Int → Int} (h : ag n W V) : ∀ (m : Nat) (i j : Int), 0 ≤ i → i < n → 0 ≤ j → j < n → (pwR n W m i j ↔ pwR n V m i j)
  | 0, i, j, a, b, c, d => by show 1 ≤ W i j ↔ 1 ≤ V i j; rw [h i j a b c d]
  | m + 1, i, j, a, b, c, d => by
    constructor
    · rintro ⟨k, x, y, z, w⟩; exact ⟨k, x, y, (pwR_cg h m i k a b x y).mp z, by rw [← h k j x y c d]; exact w⟩
    · rintro ⟨k, x, y, z, w⟩; exact ⟨k, x, y, (pwR_cg h m i k a b x y).mpr z, by rw [h k j x y c d]; exact w⟩
theorem fuR_cg {n : Int} {W V : Int → Int → Int} (h : ag n W V) (m : Nat) : fuR n (pwR n W m) ↔ fuR n (pwR n V m) :=
  ⟨fun q i j a b c d => (pwR_cg h m i j a b c d).mp (q i j a b c d), fun q i j a b c d => (pwR_cg h m i j a b c d).mpr (q i j a b c d)⟩
theorem mxG_un {n z z' : Int} {W V : Int → Int → Int} (h : ag n W V) (a : mxG n W z) (b : mxG n V z') : z = z' := by
  rcases a with ⟨a1, a2⟩ | ⟨a1, a2, a3⟩ <;> rcases b with ⟨b1, b2⟩ | ⟨b1, b2, b3⟩
  · omega
  · exact absurd ((fuR_cg h _).mpr b2) (a2 z' b1.1 b1.2)
  · exact absurd ((fuR_cg h _).mp a2) (b2 z a1.1 a1.2)
  · rcases (by omega : z < z' ∨ z = z' ∨ z' < z) with q | q | q
    · exact absurd ((fuR_cg h _).mp a2) (b3 z a1.1 q)
    · exact q
    · exact absurd ((fuR_cg h _).mpr b2) (a3 z' b1.1 q)
theorem lb_small {z : Int} (h : 0 ≤ z ∧ z < 256) (k : Nat) : lb z k = z.toNat.testBit k := by
  by_cases q : k < 64
  · show (BitVec.ofInt 64 z).getLsbD k = _
    rw [← BitVec.testBit_toNat, BitVec.toNat_ofInt]
    have : (z % ((2 ^ 64 : Nat) : Int)).toNat = z.toNat := by omega
    rw [this]
  · rw [lb_big (by omega), Nat.testBit_lt_two_pow (Nat.lt_of_lt_of_le (by omega : z.toNat < 2 ^ 8) (Nat.pow_le_pow_right (by decide) (by omega)))]
theorem jb_put {v z r x y : Int} (hz : 0 ≤ z ∧ z < 256) (hr : 0 ≤ r ∧ r < 8) (hx : 0 ≤ x ∧ x < 8) (hy : 0 ≤ y ∧ y < 8) : jb (lor v (lshl z (r * 8))) x y = (jb v x y || (decide (x = r) && bt z y)) := by
  unfold jb
  rw [lb_or]
  congr 1
  obtain ⟨m, hm⟩ : ∃ m : Nat, r * 8 = (m : Int) := ⟨(r * 8).toNat, by omega⟩
  rw [hm, lb_shl z (by omega) (by omega), lb_small hz]
  by_cases q : x = r
  · rw [decide_eq_true q, decide_eq_true (by omega), show (x * 8 + y).toNat - m = y.toNat by omega]
    rfl
  · rw [decide_eq_false q, Bool.false_and]
    by_cases w : m ≤ (x * 8 + y).toNat
    · rw [Nat.testBit_lt_two_pow (Nat.lt_of_lt_of_le (by omega : z.toNat < 2 ^ 8) (Nat.pow_le_pow_right (by decide) (by omega))), Bool.and_false]
    · rw [decide_eq_false w, Bool.false_and]
theorem t_Jo_product {σ : eS} {P J n : Int} {op op' : Int → Int → Prop} (hn : 0 ≤ n ∧ n ≤ 8) (hP : jOf P n op) (hJ : jOf J n op') : MtL shA M_Jo_product [vl P, vl J, vi n] σ (fun σ' z => σ' = σ ∧ jOf z n (fun i j => ∃ k, 0 ≤ k ∧ k < n ∧ op i k ∧ op' k j)) := by
  refine Mt.of okM_Jo_product (Nat.le_of_ble_eq_true rfl) (fun hk hg => ?_)
  refine ok_lconst (w := 0) 0 rfl rfl rfl (by decide) (ok_lst5 1 rfl rfl rfl (ok_iconst 2 rfl rfl (by decide) (ok_ist7 3 rfl rfl rfl ?_)))
  refine lpO2 (fun v i : Int => [some (vl P), none, some (vl J), none, some (vi n), some (vl v), none, some (vi i)]) (fun _ _ => σ) (fun v i => 0 ≤ i ∧ i ≤ n ∧ rl v ∧ ∀ x y : Int, 0 ≤ x → x < 8 → 0 ≤ y → y < 8 → (jb v x y = true ↔ (x < i ∧ y < n ∧ ∃ k, 0 ≤ k ∧ k < n ∧ op x k ∧ op' k y))) (fun _ i => (8 - i).toNat) ?_ 0 0 ⟨by omega, by omega, ⟨by omega, by omega⟩, fun x y a b d e => by rw [jb_0]; constructor; intro q; cases q; intro q; omega⟩
  rintro v i ⟨i1, i2, v1, v2⟩ ih
  refine ok_iload 4 rfl rfl rfl (ok_iload 5 rfl rfl rfl (ok_icmp_ge 6 43 rfl rfl rfl (fun h10 => ?_) (fun h10 => ?_)))
  · refine ok_lload 23 rfl rfl rfl (ok_lret 24 rfl rfl rfl ?_)
    exact ⟨_, rfl, rfl, v1, fun x y a b d e => by rw [v2 x y a b d e, show i = n by omega]⟩
  · have rj := rowJ_sp (J := P) (r := i) ⟨by omega, by omega⟩
    refine ok_lload 7 rfl rfl rfl (ok_lload_n 8 rfl rfl rfl (ok_lload_n 9 rfl rfl rfl (ok_iload 10 rfl rfl rfl (ok_callSI (M' := M_Jo_rowOf) (as := [_, _]) 11 rfl rfl ml_X1_17 (s_Jo_rowOf) ⟨Nat.le_of_ble_eq_true rfl, Nat.le_of_ble_eq_true rfl⟩ rfl (Nat.le_of_ble_eq_true rfl) (fun σ' z hz => ?_)))))
    rw [hz.1, hz.2]
    clear hz z σ'
    refine ok_iload 12 rfl rfl rfl (ok_callSI (M' := M_Jo_columnsOf) (as := [_, _, _]) 13 rfl rfl ml_X1_25 (t_Jo_columnsOf hn rj.1) ⟨Nat.le_of_ble_eq_true rfl, Nat.le_of_ble_eq_true rfl⟩ rfl (Nat.le_of_ble_eq_true rfl) (fun σ' z hz => ?_))
    obtain ⟨hs_, hz⟩ := hz
    rw [hs_]; clear hs_ σ'
    obtain ⟨z1, z2⟩ := cOf_op hn.2 hJ hz
    refine ok_i2l 14 rfl rfl (ok_iload 15 rfl rfl rfl (ok_bipush 16 rfl rfl (by decide) (by decide) (ok_imul 17 rfl rfl (by first | omega | (simp [up_if]; omega) | (simp [up_if] at *; omega)) (ok_lshl 18 rfl rfl (ok_lor 19 rfl rfl (ok_lst5 20 rfl rfl rfl (ok_inc7 21 rfl rfl rfl (by first | omega | (simp [up_if]; omega) | (simp [up_if] at *; omega)) (ok_goto 22 6 rfl rfl rfl ?_))))))))
    refine ih _ (i + 1) ⟨by omega, by omega, rl_lor _ _, fun x y a b d e => ?_⟩ (by omega)
    rw [jb_put z1 ⟨i1, by omega⟩ ⟨a, b⟩ ⟨d, e⟩, Bool.or_eq_true, Bool.and_eq_true, v2 x y a b d e, z2 y d e, decide_eq_true_eq]
    constructor
    · rintro (⟨q1, q2⟩ | ⟨q1, q2, k, k1, k2, k3, k4⟩)
      · exact ⟨by omega, q2⟩
      · rw [rj.2 k k1 (by omega), hP.2 i k i1 (by omega) k1 (by omega)] at k3
        exact ⟨by omega, q2, k, k1, k2, by rw [q1]; exact k3.2.2, k4⟩
    · rintro ⟨q1, q2, k, k1, k2, k3, k4⟩
      by_cases w : x = i
      · refine Or.inr ⟨w, q2, k, k1, k2, ?_, k4⟩
        rw [rj.2 k k1 (by omega), hP.2 i k i1 (by omega) k1 (by omega)]
        exact ⟨by omega, k2, by rw [← w]; exact k3⟩
      · exact Or.inl ⟨by omega, q2, k, k1, k2, k3, k4⟩
theorem full_eq {P F n : Int} {op op' : Int → Int → Prop} (hn : n ≤ 8) (hP : jOf P n op) (hF : jOf F n op') (hf : fuR n op') : P = F ↔ fuR n op := by
  constructor
  · intro e i j a b c d
    have x := (hF.2 i j a (by omega) c (by omega)).mpr ⟨b, d, hf i j a b c d⟩
    rw [← e] at x
    exact ((hP.2 i j a (by omega) c (by omega)).mp x).2.2
  · intro h
    refine jb_ext hP.1 hF.1 (fun x y a b c d => ?_)
    have e1 := hP.2 x y a b c d
    have e2 := hF.2 x y a b c d
    by_cases q : x < n ∧ y < n
    · rw [e1.mpr ⟨q.1, q.2, h x y a q.1 c q.2⟩, e2.mpr ⟨q.1, q.2, hf x y a q.1 c q.2⟩]
    · have f1 : jb P x y = false := by
        cases w : jb P x y with
        | false => rfl
        | true => have := e1.mp w; omega
      have f2 : jb F x y = false := by
        cases w : jb F x y with
        | false => rfl
        | true => have := e2.mp w; omega
      rw [f1, f2]
theorem t_Jo_leastFullPower {σ : eS} {J F n : Int} {W : Int → Int → Int} {op' : Int → Int → Prop} (hn : 0 ≤ n ∧ n ≤ 8) (hJ : jOf J n (fun i j => 1 ≤ W i j)) (hF : jOf F n op') (hf : fuR n op') : MtI shA M_Jo_leastFullPower [vl J, vl F, vi n] σ (fun σ' z => σ' = σ ∧ mxG n W z) := by
  refine Mt.of okM_Jo_leastFullPower (Nat.le_of_ble_eq_true rfl) (fun hk hg => ?_)
  refine ok_lload_n 0 rfl rfl rfl (ok_lst5 1 rfl rfl rfl (ok_iconst 2 rfl rfl (by decide) (ok_ist7 3 rfl rfl rfl ?_)))
  refine lpO2 (fun v m : Int => [some (vl J), none, some (vl F), none, some (vi n), some (vl v), none, some (vi m)]) (fun _ _ => σ) (fun v m => 1 ≤ m ∧ m ≤ 65 ∧ jOf v n (pwR n W (m - 1).toNat) ∧ ∀ q : Int, 1 ≤ q → q < m → ¬ fuR n (pwR n W (q - 1).toNat)) (fun _ m => (65 - m).toNat) ?_ J 1 ⟨by omega, by omega, hJ, fun q a b => by omega⟩
  rintro v m ⟨m1, m2, v1, v2⟩ ih
  have fe := full_eq hn.2 v1 hF hf
  refine ok_iload 4 rfl rfl rfl (ok_bipush 5 rfl rfl (by decide) (by decide) (ok_icmp_gt 6 39 rfl rfl rfl (fun h10 => ?_) (fun h10 => ?_)))
  · refine ok_iconst 20 rfl rfl (by decide) (ok_iret 21 rfl rfl rfl ?_)
    exact ⟨_, rfl, rfl, Or.inl ⟨rfl, fun q a b => v2 q a (by omega)⟩⟩
  · refine ok_lload 7 rfl rfl rfl (ok_lload_n 8 rfl rfl rfl (ok_lcmp_ne 9 10 23 rfl rfl rfl rfl rfl (fun h16 => ?_) (fun h16 => ?_)))
    · refine ok_lload 13 rfl rfl rfl (ok_lload_n 14 rfl rfl rfl (ok_iload 15 rfl rfl rfl (ok_callSL (M' := M_Jo_product) (as := [_, _, _]) 16 rfl rfl ml_X1_40 (t_Jo_product hn v1 hJ) ⟨Nat.le_of_ble_eq_true rfl, Nat.le_of_ble_eq_true rfl⟩ rfl (Nat.le_of_ble_eq_true rfl) (fun σ' z hz => ?_))))
      obtain ⟨hs_, hz⟩ := hz
      rw [hs_]; clear hs_ σ'
      refine ok_lst5 17 rfl rfl rfl (ok_inc7 18 rfl rfl rfl (by first | omega | (simp [up_if]; omega) | (simp [up_if] at *; omega)) (ok_goto 19 6 rfl rfl rfl ?_))
      refine ih _ (m + 1) ⟨by omega, by omega, ?_, ?_⟩ (by omega)
      · rw [show (m + 1 - 1).toNat = (m - 1).toNat + 1 by omega]; exact hz
      · intro q a b
        by_cases y : q = m
        · rw [y]; exact fun w => absurd (fe.mpr w) (by omega)
        · exact v2 q a (by omega)
    · refine ok_iload 11 rfl rfl rfl (ok_iret 12 rfl rfl rfl ?_)
      exact ⟨_, rfl, rfl, Or.inr ⟨⟨m1, by omega⟩, fe.mp (by omega), v2⟩⟩
theorem t_Ev_mixing {σ : eS} {s : Int} (h : IA σ) : MtI shA M_Ev_mixing [vr 0, vi s] σ (fun σ' z => σ' = σ ∧ ((¬ tabA σ s ∧ z = -1) ∨ (tabA σ s ∧ mxG (σ (s.toNat + 2) 1) (cT σ (s.toNat + 2)) z))) := by
  refine Mt.of okM_Ev_mixing (Nat.le_of_ble_eq_true rfl) (fun hk hg => ?_)
  refine ok_aload_n 0 rfl rfl rfl (ok_iload_n 1 rfl rfl rfl (ok_callVR (M' := M_Ev_filledSlot) (as := [_]) 2 rfl rfl ml_X11_137 (s_Ev_filledSlot) rfl rfl (Nat.le_of_ble_eq_true rfl) ⟨Nat.le_of_ble_eq_true rfl, Nat.le_of_ble_eq_true rfl⟩ rfl (Nat.le_of_ble_eq_true rfl) (fun σ' z hz => ?_)))
  obtain ⟨hs_, hz⟩ := hz
  rw [hs_]; clear hs_ σ'
  rcases hz with ⟨q, q0⟩ | ⟨q1, q2, q, q3⟩
  · subst q
    refine ok_ast2 3 rfl rfl rfl (ok_aload_n 4 rfl rfl rfl (ok_ifnonnullN 5 rfl rfl (ok_iconst 6 rfl rfl (by decide) (ok_goto 7 31 rfl rfl rfl (ok_iret 17 rfl rfl rfl ?_)))))
    exact ⟨_, rfl, rfl, Or.inl ⟨q0, rfl⟩⟩
  · subst q
    have ht := sl_tA ⟨q1, q2⟩
    have hT := (h.2.1 _ ht).1
    have m2 := hT.2.1
    refine ok_ast2 3 rfl rfl rfl (ok_aload_n 4 rfl rfl rfl (ok_ifnonnull 5 14 rfl rfl rfl (ok_aload_n 8 rfl rfl rfl (ok_iconst 9 rfl rfl (by decide) (ok_callVL (M' := M_Ta_joinedBy) (as := [_]) 10 rfl rfl ml_X11_119 (t_Ta_joinedBy ht hT) (sT ht) rfl (Nat.le_of_ble_eq_true rfl) ⟨Nat.le_of_ble_eq_true rfl, Nat.le_of_ble_eq_true rfl⟩ rfl (Nat.le_of_ble_eq_true rfl) (fun σ' z1 x1 => ?_))))))
    obtain ⟨hs_, x1⟩ := x1
    rw [hs_]; clear hs_ σ'
    refine ok_aload_n 11 rfl rfl rfl (ok_iconst 12 rfl rfl (by decide) (ok_callVL (M' := M_Ta_joinedBy) (as := [_]) 13 rfl rfl ml_X11_119 (t_Ta_joinedBy ht hT) (sT ht) rfl (Nat.le_of_ble_eq_true rfl) ⟨Nat.le_of_ble_eq_true rfl, Nat.le_of_ble_eq_true rfl⟩ rfl (Nat.le_of_ble_eq_true rfl) (fun σ' z2 x2 => ?_)))
    obtain ⟨hs_, x2⟩ := x2
    rw [hs_]; clear hs_ σ'
    refine ok_aload_n 14 rfl rfl rfl (ok_getI 15 rfl rfl fl_X11_103 (sT ht) rfl (Or.inl rfl) (ok_callSI (M' := M_Jo_leastFullPower) (as := [_, _, _]) 16 rfl rfl ml_X11_279 (t_Jo_leastFullPower ⟨hT.1, hT.2.1⟩ x1 x2 (fun i j a b c d => (cT_bd hT ⟨a, by omega⟩ ⟨c, by omega⟩).1)) ⟨Nat.le_of_ble_eq_true rfl, Nat.le_of_ble_eq_true rfl⟩ rfl (Nat.le_of_ble_eq_true rfl) (fun σ' z3 x3 => ?_)))
    obtain ⟨hs_, x3⟩ := x3
    rw [hs_]; clear hs_ σ'
    refine ok_iret 17 rfl rfl rfl ?_
    exact ⟨_, rfl, rfl, Or.inr ⟨⟨q1, q2, q3⟩, x3⟩⟩
/-- a field of booleans says a relation, up to a place -/
def fdB (ρ : eS) (c : Nat) (n m : Int) (op : Int → Int → Prop) : Prop := ∀ i j, 0 ≤ i → i < n → 0 ≤ j → j < n → n * i + j < m → (ρ c (n * i + j) = 0 ∨ ρ c (n * i + j) = 1) ∧ (ρ c (n * i + j) = 1 ↔ op i j)
theorem fdB_s {ρ : eS} {c : Nat} {n i j v : Int} {op : Int → Int → Prop} (hn : 1 ≤ n ∧ n ≤ 8) (hi : 0 ≤ i ∧ i < n) (hj : 0 ≤ j ∧ j < n) (h : fdB ρ c n (n * i + j) op) (hv : v = 0 ∨ v = 1) (hv2 : v = 1 ↔ op i j) : fdB (up ρ c (n * i + j) v) c n (n * i + (j + 1)) op := fun x y a b d e l => by
  by_cases q : n * x + y = n * i + j
  · obtain ⟨q1, q2⟩ := ix_inj hn ⟨d, e⟩ hj q
    rw [q1, q2, up_same]
    exact ⟨hv, hv2⟩
  · rw [up_nk _ _ _ _ q]
    exact h x y a b d e (by omega)
theorem fdB_r {ρ : eS} {c : Nat} {n i : Int} {op : Int → Int → Prop} (h : fdB ρ c n (n * i + n) op) : fdB ρ c n (n * (i + 1)) op := by
  rw [Int.mul_add, Int.mul_one]
  exact h
theorem fdB_all {ρ : eS} {c : Nat} {n : Int} {op : Int → Int → Prop} (hn : 1 ≤ n ∧ n ≤ 8) (h : fdB ρ c n (n * n) op) {i j : Int} (hi : 0 ≤ i ∧ i < n) (hj : 0 ≤ j ∧ j < n) : (ρ c (n * i + j) = 0 ∨ ρ c (n * i + j) = 1) ∧ (ρ c (n * i + j) = 1 ↔ op i j) :=
  h i j hi.1 hi.2 hj.1 hj.2 (ix8 (n := n) (i := i) (j := j) ⟨by omega, hn.2⟩ hi hj).2.2.1
theorem fdB_lin {ρ : eS} {c : Nat} {n : Int} {f : Int → Prop} {op : Int → Int → Prop} (hn : 1 ≤ n ∧ n ≤ 8) (h : ∀ q, 0 ≤ q → q < n * n → (ρ c q = 0 ∨ ρ c q = 1) ∧ (ρ c q = 1 ↔ f q)) (e : ∀ i j, 0 ≤ i → i < n → 0 ≤ j → j < n → (f (n * i + j) ↔ op i j)) : fdB ρ c n (n * n) op := fun i j a b d g l => by
  have x := ix8 (n := n) (i := i) (j := j) ⟨by omega, hn.2⟩ ⟨a, b⟩ ⟨d, g⟩
  have y := h (n * i + j) (by omega) l
  exact ⟨y.1, y.2.trans (e i j a b d g)⟩
theorem fu_lin {ρ : eS} {c : Nat} {n : Int} {op : Int → Int → Prop} (hn : 1 ≤ n ∧ n ≤ 8) (h : fdB ρ c n (n * n) op) : (∀ q, 0 ≤ q → q < n * n → ρ c q = 1) ↔ fuR n op := by
  constructor
  · intro q i j a b d e
    have x := ix8 (n := n) (i := i) (j := j) ⟨by omega, hn.2⟩ ⟨a, b⟩ ⟨d, e⟩
    exact (fdB_all hn h ⟨a, b⟩ ⟨d, e⟩).2.mp (q _ (by omega) (by omega))
  · intro w q a b
    have g1 := Int.mul_ediv_add_emod q n
    have g2 := Int.emod_nonneg q (by omega : n ≠ 0)
    have g3 := Int.emod_lt_of_pos q (by omega : 0 < n)
    have g4 : q / n < n := Int.ediv_lt_of_lt_mul (by omega) (by omega)
    have g5 : 0 ≤ q / n := Int.ediv_nonneg a (by omega)
    have x := (fdB_all hn h ⟨g5, g4⟩ ⟨g2, g3⟩).2.mpr (w _ _ g5 g4 g2 g3)
    rw [g1] at x
    exact x
theorem bl_01 {ρ : eS} {c : Nat} {n q : Int} {op : Int → Int → Prop} (hn : 1 ≤ n ∧ n ≤ 8) (h : fdB ρ c n (n * n) op) (a : 0 ≤ q) (b : q < n * n) : ρ c q = 0 ∨ ρ c q = 1 := by
  have g1 := Int.mul_ediv_add_emod q n
  have g2 := Int.emod_nonneg q (by omega : n ≠ 0)
  have g3 := Int.emod_lt_of_pos q (by omega : 0 < n)
  have g4 : q / n < n := Int.ediv_lt_of_lt_mul (by omega) (by omega)
  have g5 : 0 ≤ q / n := Int.ediv_nonneg a (by omega)
  have x := (fdB_all hn h ⟨g5, g4⟩ ⟨g2, g3⟩).1
  rw [g1] at x
  exact x
theorem t_Mo_mixing {σ : eS} {s : Int} (hB : iB1 σ) : MtI shB M_Mo_mixing [vr 0, vi s] σ (fun σ' z => fr rgX σ σ' ∧ ((¬ tabB σ s ∧ z = -1) ∨ (tabB σ s ∧ mxG (σ 1 s) (cB σ s) z))) := by
  refine Mt.of okM_Mo_mixing (Nat.le_of_ble_eq_true rfl) (fun hk hg => ?_)
  refine ok_aload_n 0 rfl rfl rfl (ok_iload_n 1 rfl rfl rfl (ok_callVI (M' := M_Mo_isTable) (as := [_]) 2 rfl rfl ml_X12_111 (s_Mo_isTable_r) rfl rfl (Nat.le_of_ble_eq_true rfl) ⟨Nat.le_of_ble_eq_true rfl, Nat.le_of_ble_eq_true rfl⟩ rfl (Nat.le_of_ble_eq_true rfl) (fun σ' z1 a1 => ?_)))
  obtain ⟨hs_, a1⟩ := a1
  rw [hs_]; clear hs_ σ'
  refine ok_if_ne 3 10 rfl rfl rfl (fun h5 => ?_) (fun h5 => ?_)
  · obtain ⟨u1, u2, u3⟩ := yes1 a1 h5
    have tn := hB.1 s u1 u2
    have ht : tabB σ s := ⟨u1, u2, u3⟩
    refine ok_aload_n 6 rfl rfl rfl (ok_getR 7 rfl rfl fl_X12_7 rfl rfl (ok_iload_n 8 rfl rfl rfl (ok_iald 9 rfl rfl rfl (by first | omega | (simp [up_if]; omega) | (simp [up_if] at *; omega)) (ok_ist2 10 rfl rfl rfl (ok_iconst 11 rfl rfl (by decide) (ok_ist3 12 rfl rfl rfl ?_))))))
    obtain ⟨n, en⟩ : ∃ n, n = σ 1 s := ⟨_, rfl⟩
    rw [← en]
    have n1 : 1 ≤ n ∧ n ≤ 8 := by omega
    obtain ⟨q1, q2⟩ := sq8 (n := n) ⟨by omega, by omega⟩
    have E : ∀ τ : eS, fr rgX σ τ → iB1 τ ∧ τ 1 s = n ∧ (∀ k, τ 3 k = σ 3 k) ∧ cB τ s = cB σ s := fun τ g => by
      have e1 : τ 1 s = σ 1 s := g 1 s (by simp [rgX])
      have e3 : ∀ k, τ 3 k = σ 3 k := fun k => g 3 k (by simp [rgX])
      exact ⟨iB1_frS hB g (fun c k q => by simp only [rgX]; omega), by rw [e1, en], e3, by funext i j; unfold cB; rw [e1, e3]⟩
    refine lpO2 (fun (k : Int) (_ : eS) => [some (vr 0), some (vi s), some (vi n), some (vi k), none, none, none, none, none]) (fun _ ρ => ρ) (fun k ρ => 0 ≤ k ∧ k ≤ n * n ∧ fr rgX σ ρ ∧ ∀ q, 0 ≤ q → q < k → (ρ 21 q = 0 ∨ ρ 21 q = 1) ∧ (ρ 21 q = 1 ↔ 0 < σ 3 (64 * s + q))) (fun k _ => (n * n - k).toNat) ?_ 0 _ ⟨by omega, by omega, fr.rf, fun q a b => by omega⟩
    rintro k ρ ⟨k1, k2, f, hl⟩ ih
    have e3 := (E ρ f).2.2.1 (64 * s + k)
    refine ok_iload_n 13 rfl rfl rfl (ok_iload_n 14 rfl rfl rfl (ok_iload_n 15 rfl rfl rfl (ok_imul 16 rfl rfl (by first | omega | (simp [up_if]; omega) | (simp [up_if] at *; omega)) (ok_icmp_ge 17 57 rfl rfl rfl (fun h23 => ?_) (fun h23 => ?_)))))
    · refine ok_iconst 36 rfl rfl (by decide) (ok_ist3 37 rfl rfl rfl ?_)
      clear ih k1
      have ek : k = n * n := by omega
      rw [ek] at hl
      have hP : fdB ρ 21 n (n * n) (pwR n (cB σ s) 0) := fdB_lin n1 hl (fun i j a b c d => by show 0 < σ 3 (64 * s + (n * i + j)) ↔ 1 ≤ cB σ s i j; unfold cB; rw [← en, ← Int.add_assoc]; omega)
      clear ek k2 hl e3
      refine lpO2 (fun (k : Int) (_ : eS) => [some (vr 0), some (vi s), some (vi n), some (vi k), none, none, none, none, none]) (fun _ ρ => ρ) (fun k ρ => 1 ≤ k ∧ k ≤ 65 ∧ fr rgX σ ρ ∧ fdB ρ 21 n (n * n) (pwR n (cB σ s) (k - 1).toNat) ∧ ∀ q : Int, 1 ≤ q → q < k → ¬ fuR n (pwR n (cB σ s) (q - 1).toNat)) (fun k _ => (65 - k).toNat) ?_ 1 ρ ⟨by omega, by omega, f, hP, fun q a b => by omega⟩
      clear f hP h23 k ρ
      rintro k ρ ⟨k1, k2, f, hP, hno⟩ ih
      have fl := fu_lin n1 hP
      refine ok_iload_n 38 rfl rfl rfl (ok_bipush 39 rfl rfl (by decide) (by decide) (ok_icmp_gt 40 252 rfl rfl rfl (fun h62 => ?_) (fun h62 => ?_)))
      · refine ok_iconst 139 rfl rfl (by decide) (ok_iret 140 rfl rfl rfl ?_)
        exact ⟨_, rfl, f, Or.inr ⟨ht, Or.inl ⟨rfl, fun q a b => hno q a (by omega)⟩⟩⟩
      · refine ok_iconst 41 rfl rfl (by decide) (ok_ist4 42 rfl rfl rfl (ok_iconst 43 rfl rfl (by decide) (ok_ist5 44 rfl rfl rfl ?_)))
        refine lpO2 (fun (a i : Int) => [some (vr 0), some (vi s), some (vi n), some (vi k), some (vi a), some (vi i), none, none, none]) (fun _ _ => ρ) (fun a i => 0 ≤ i ∧ i ≤ n * n ∧ (a = 0 ∨ a = 1) ∧ (a = 1 ↔ ∀ q, 0 ≤ q → q < i → ρ 21 q = 1)) (fun _ i => (n * n - i).toNat) ?_ 1 0 ⟨by omega, by omega, by omega, fun _ q a b => by omega, fun _ => rfl⟩
        rintro a i ⟨i1, i2, i3, i4⟩ ih2
        refine ok_iload 45 rfl rfl rfl (ok_iload_n 46 rfl rfl rfl (ok_iload_n 47 rfl rfl rfl (ok_imul 48 rfl rfl (by first | omega | (simp [up_if]; omega) | (simp [up_if] at *; omega)) (ok_icmp_ge 49 107 rfl rfl rfl (fun h76 => ?_) (fun h76 => ?_)))))
        · refine ok_iload 63 rfl rfl rfl (ok_if_eq 64 114 rfl rfl rfl (fun h109 => ?_) (fun h109 => ?_))
          · refine ok_iconst 67 rfl rfl (by decide) (ok_ist5 68 rfl rfl rfl ?_)
            have ei : i = n * n := by omega
            rw [ei] at i4
            have hn0 : ¬ fuR n (pwR n (cB σ s) (k - 1).toNat) := fun y => by have := i4.mpr (fl.mpr y); omega
            clear ih2 i1 i2 i3 i4 ei
            obtain ⟨op, eop⟩ : ∃ op, op = pwR n (cB σ s) ((k - 1).toNat + 1) := ⟨_, rfl⟩
            have r21 : fr (fun c _ => c = 22) ρ ρ := fr.rf
            obtain ⟨R, eR⟩ : ∃ R, R = ρ := ⟨_, rfl⟩
            rw [← eR] at hP
            refine lpO2 (fun (i : Int) (_ : eS) => [some (vr 0), some (vi s), some (vi n), some (vi k), some (vi a), some (vi i), none, none, none]) (fun _ ρ => ρ) (fun i ρ => 0 ≤ i ∧ i ≤ n ∧ fr rgX σ ρ ∧ fr (fun c _ => c = 22) R ρ ∧ fdB ρ 22 n (n * i) op) (fun i _ => (n - i).toNat) ?_ 0 ρ ⟨by omega, by omega, f, by rw [eR]; exact fr.rf, fun x y c d e g l => by have := ix8 (n := n) (i := x) (j := y) ⟨by omega, by omega⟩ ⟨c, d⟩ ⟨e, g⟩; omega⟩
            clear f eR fl r21 h76 i ρ
            rintro i ρ ⟨i1, i2, f, fR, hz⟩ ih2
            refine ok_iload 69 rfl rfl rfl (ok_iload_n 70 rfl rfl rfl (ok_icmp_ge 71 215 rfl rfl rfl (fun h120 => ?_) (fun h120 => ?_)))
            · refine ok_iconst 120 rfl rfl (by decide) (ok_ist5 121 rfl rfl rfl ?_)
              have hz' : fdB ρ 22 n (n * n) op := by rw [show i = n by omega] at hz; exact hz
              clear ih2 i1 i2 hz fR
              obtain ⟨T, eT⟩ : ∃ T, T = ρ := ⟨_, rfl⟩
              rw [← eT] at hz'
              refine lpO2 (fun (i : Int) (_ : eS) => [some (vr 0), some (vi s), some (vi n), some (vi k), some (vi a), some (vi i), none, none, none]) (fun _ ρ => ρ) (fun i ρ => 0 ≤ i ∧ i ≤ n * n ∧ fr rgX σ ρ ∧ (∀ q, ρ 22 q = T 22 q) ∧ ∀ q, 0 ≤ q → q < i → ρ 21 q = T 22 q) (fun i _ => (n * n - i).toNat) ?_ 0 ρ ⟨by omega, by omega, f, fun q => by rw [eT], fun q a b => by omega⟩
              clear f eT ρ h120 i
              rintro i ρ ⟨i1, i2, f, fT, hq⟩ ih2
              refine ok_iload 122 rfl rfl rfl (ok_iload_n 123 rfl rfl rfl (ok_iload_n 124 rfl rfl rfl (ok_imul 125 rfl rfl (by first | omega | (simp [up_if]; omega) | (simp [up_if] at *; omega)) (ok_icmp_ge 126 246 rfl rfl rfl (fun h223 => ?_) (fun h223 => ?_)))))
              · refine ok_inc3 137 rfl rfl rfl (by first | omega | (simp [up_if]; omega) | (simp [up_if] at *; omega)) (ok_goto 138 59 rfl rfl rfl ?_)
                refine ok_fg [some (vr 0), some (vi s), some (vi n), some (vi (k + 1)), none, none, none, none, none] ⟨rfl, rfl, rfl, rfl, trivial⟩ (ih (k + 1) _ ⟨by omega, by omega, f, ?_, ?_⟩ (by omega))
                · rw [show (k + 1 - 1).toNat = (k - 1).toNat + 1 by omega, ← eop]
                  intro x y c d e g l
                  have bx := ix8 (n := n) (i := x) (j := y) ⟨by omega, by omega⟩ ⟨c, d⟩ ⟨e, g⟩
                  rw [hq _ (by omega) (by omega)]
                  exact hz' x y c d e g l
                · intro q c d
                  by_cases y : q = k
                  · rw [y]; exact hn0
                  · exact hno q c (by omega)
              · refine ok_aload_n 127 rfl rfl rfl (ok_getR 128 rfl rfl fl_X12_75 rfl rfl (ok_iload 129 rfl rfl rfl (ok_aload_n 130 rfl rfl rfl (ok_getR 131 rfl rfl fl_X12_79 rfl rfl (ok_iload 132 rfl rfl rfl (ok_zald 133 rfl rfl rfl (by first | omega | (simp [up_if]; omega) | (simp [up_if] at *; omega)) (ok_zast 134 rfl rfl rfl (by omega) (by rw [fT]; exact bl_01 n1 hz' i1 (by omega)) (ok_inc5 135 rfl rfl rfl (by first | omega | (simp [up_if]; omega) | (simp [up_if] at *; omega)) (ok_goto 136 218 rfl rfl rfl ?_)))))))))
                refine ih2 (i + 1) _ ⟨by omega, by omega, fr_up f (by simp [rgX]), fun q => by rw [up_ne _ _ _ _ (by decide)]; exact fT q, lt_ext (fun q a b => by rw [up_nk _ _ _ _ (by omega)]; exact hq q a b) ?_⟩ (by omega)
                rw [up_same, fT]
            · refine ok_iconst 72 rfl rfl (by decide) (ok_ist6 73 rfl rfl rfl ?_)
              refine lpO2 (fun (j : Int) (_ : eS) => [some (vr 0), some (vi s), some (vi n), some (vi k), some (vi a), some (vi i), some (vi j), none, none]) (fun _ ρ => ρ) (fun j ρ => 0 ≤ j ∧ j ≤ n ∧ fr rgX σ ρ ∧ fr (fun c _ => c = 22) R ρ ∧ fdB ρ 22 n (n * i + j) op) (fun j _ => (n - j).toNat) ?_ 0 ρ ⟨by omega, by omega, f, fR, by rw [Int.add_zero]; exact hz⟩
              clear f fR hz ρ
              rintro j ρ ⟨j1, j2, f, fR, hz⟩ ih3
              refine ok_iload 74 rfl rfl rfl (ok_iload_n 75 rfl rfl rfl (ok_icmp_ge 76 209 rfl rfl rfl (fun h129 => ?_) (fun h129 => ?_)))
              · refine ok_inc5 118 rfl rfl rfl (by first | omega | (simp [up_if]; omega) | (simp [up_if] at *; omega)) (ok_goto 119 117 rfl rfl rfl ?_)
                exact ok_fg [some (vr 0), some (vi s), some (vi n), some (vi k), some (vi a), some (vi (i + 1)), none, none, none] ⟨rfl, rfl, rfl, rfl, rfl, rfl, trivial⟩ (ih2 (i + 1) _ ⟨by omega, by omega, f, fR, fdB_r (by rw [show j = n by omega] at hz; exact hz)⟩ (by omega))
              · refine ok_iconst 77 rfl rfl (by decide) (ok_ist7 78 rfl rfl rfl (ok_iconst 79 rfl rfl (by decide) (ok_ist8 80 rfl rfl rfl ?_)))
                obtain ⟨eb, e1, e3, ec⟩ := E ρ f
                refine lpO2 (fun (v m : Int) => [some (vr 0), some (vi s), some (vi n), some (vi k), some (vi a), some (vi i), some (vi j), some (vi v), some (vi m)]) (fun _ _ => ρ) (fun v m => 0 ≤ m ∧ m ≤ n ∧ (v = 0 ∨ v = 1) ∧ (v = 1 ↔ ∃ q, 0 ≤ q ∧ q < m ∧ pwR n (cB σ s) (k - 1).toNat i q ∧ 1 ≤ cB σ s q j)) (fun _ m => (n - m).toNat) ?_ 0 0 ⟨by omega, by omega, by omega, fun y => absurd y (by decide), fun ⟨q, a, b, _⟩ => by omega⟩
                rintro v m ⟨m1, m2, m3, m4⟩ ih4
                have bi := ix8 (n := n) (i := i) (j := j) ⟨by omega, by omega⟩ ⟨by omega, by omega⟩ ⟨by omega, by omega⟩
                have old : (∃ q, 0 ≤ q ∧ q < m ∧ pwR n (cB σ s) (k - 1).toNat i q ∧ 1 ≤ cB σ s q j) → (∃ q, 0 ≤ q ∧ q < m + 1 ∧ pwR n (cB σ s) (k - 1).toNat i q ∧ 1 ≤ cB σ s q j) := fun ⟨q, a, b, c⟩ => ⟨q, a, by omega, c⟩
                refine ok_iload 81 rfl rfl rfl (ok_iload_n 82 rfl rfl rfl (ok_icmp_ge 83 189 rfl rfl rfl (fun h141 => ?_) (fun h141 => ?_)))
                · refine ok_aload_n 107 rfl rfl rfl (ok_getR 108 rfl rfl fl_X12_79 rfl rfl (ok_iload_n 109 rfl rfl rfl (ok_iload 110 rfl rfl rfl (ok_imul 111 rfl rfl (by first | omega | (simp [up_if]; omega) | (simp [up_if] at *; omega)) (ok_iload 112 rfl rfl rfl (ok_iadd 113 rfl rfl (by first | omega | (simp [up_if]; omega) | (simp [up_if] at *; omega)) (ok_iload 114 rfl rfl rfl (ok_zast 115 rfl rfl rfl (by first | omega | (simp [up_if]; omega) | (simp [up_if] at *; omega)) (by first | omega | (simp [up_if]; omega) | (simp [up_if] at *; omega)) (ok_inc6 116 rfl rfl rfl (by first | omega | (simp [up_if]; omega) | (simp [up_if] at *; omega)) (ok_goto 117 126 rfl rfl rfl ?_))))))))))
                  have em : m = n := by omega
                  rw [em] at m4
                  refine ok_fg [some (vr 0), some (vi s), some (vi n), some (vi k), some (vi a), some (vi i), some (vi (j + 1)), none, none] ⟨rfl, rfl, rfl, rfl, rfl, rfl, rfl, trivial⟩ (ih3 (j + 1) _ ⟨by omega, by omega, fr_up f (by simp [rgX]), fr_up fR rfl, fdB_s n1 ⟨by omega, by omega⟩ ⟨by omega, by omega⟩ hz m3 ?_⟩ (by omega))
                  rw [eop]
                  exact m4
                · have bm := ix8 (n := n) (i := i) (j := m) ⟨by omega, by omega⟩ ⟨by omega, by omega⟩ ⟨by omega, by omega⟩
                  have rm := fdB_all n1 hP (i := i) (j := m) ⟨by omega, by omega⟩ ⟨m1, by omega⟩
                  rw [← fR 21 (n * i + m) (by omega)] at rm
                  refine ok_iload 84 rfl rfl rfl (ok_if_ne 85 176 rfl rfl rfl (fun h146 => ?_) (fun h146 => ?_))
                  · refine ok_iconst 101 rfl rfl (by decide) (ok_goto 102 181 rfl rfl rfl (ok_ist7 104 rfl rfl rfl (ok_inc8 105 rfl rfl rfl (by first | omega | (simp [up_if]; omega) | (simp [up_if] at *; omega)) (ok_goto 106 138 rfl rfl rfl ?_))))
                    exact ih4 _ (m + 1) ⟨by omega, by omega, by omega, fun _ => old (m4.mp (by omega)), fun _ => rfl⟩ (by omega)
                  · refine ok_aload_n 86 rfl rfl rfl (ok_getR 87 rfl rfl fl_X12_75 rfl rfl (ok_iload_n 88 rfl rfl rfl (ok_iload 89 rfl rfl rfl (ok_imul 90 rfl rfl (by first | omega | (simp [up_if]; omega) | (simp [up_if] at *; omega)) (ok_iload 91 rfl rfl rfl (ok_iadd 92 rfl rfl (by first | omega | (simp [up_if]; omega) | (simp [up_if] at *; omega)) (ok_zald 93 rfl rfl rfl (by first | omega | (simp [up_if]; omega) | (simp [up_if] at *; omega)) (ok_if_eq 94 180 rfl rfl rfl (fun h161 => ?_) (fun h161 => ?_)))))))))
                    · refine ok_iconst 103 rfl rfl (by decide) (ok_ist7 104 rfl rfl rfl (ok_inc8 105 rfl rfl rfl (by first | omega | (simp [up_if]; omega) | (simp [up_if] at *; omega)) (ok_goto 106 138 rfl rfl rfl ?_)))
                      refine ih4 _ (m + 1) ⟨by omega, by omega, by omega, fun y => absurd y (by decide), fun ⟨q, a, b, c, d⟩ => ?_⟩ (by omega)
                      exfalso
                      rcases (by omega : q < m ∨ q = m) with w | w
                      · have := m4.mpr ⟨q, a, w, c, d⟩; omega
                      · rw [w] at c; have := rm.2.mpr c; omega
                    · refine ok_aload_n 95 rfl rfl rfl (ok_iload_n 96 rfl rfl rfl (ok_iload 97 rfl rfl rfl (ok_iload 98 rfl rfl rfl (ok_callVI (M' := M_Mo_at) (as := [_, _, _]) 99 rfl rfl ml_X12_107 (s_Mo_at eb ⟨u1, u2⟩ ⟨by omega, by omega⟩ ⟨by omega, by omega⟩) rfl rfl (Nat.le_of_ble_eq_true rfl) ⟨Nat.le_of_ble_eq_true rfl, Nat.le_of_ble_eq_true rfl⟩ rfl (Nat.le_of_ble_eq_true rfl) (fun σ' z hz => ?_)))))
                      rw [hz.1, hz.2, ec]; clear hz z σ'
                      refine ok_if_le 100 180 rfl rfl rfl (fun h173 => ?_) (fun h173 => ?_)
                      · refine ok_iconst 103 rfl rfl (by decide) (ok_ist7 104 rfl rfl rfl (ok_inc8 105 rfl rfl rfl (by first | omega | (simp [up_if]; omega) | (simp [up_if] at *; omega)) (ok_goto 106 138 rfl rfl rfl ?_)))
                        refine ih4 _ (m + 1) ⟨by omega, by omega, by omega, fun y => absurd y (by decide), fun ⟨q, a, b, c, d⟩ => ?_⟩ (by omega)
                        exfalso
                        rcases (by omega : q < m ∨ q = m) with w | w
                        · have := m4.mpr ⟨q, a, w, c, d⟩; omega
                        · rw [w] at d; omega
                      · refine ok_iconst 101 rfl rfl (by decide) (ok_goto 102 181 rfl rfl rfl (ok_ist7 104 rfl rfl rfl (ok_inc8 105 rfl rfl rfl (by first | omega | (simp [up_if]; omega) | (simp [up_if] at *; omega)) (ok_goto 106 138 rfl rfl rfl ?_))))
                        exact ih4 _ (m + 1) ⟨by omega, by omega, by omega, fun _ => ⟨m, m1, by omega, rm.2.mp (by omega), by omega⟩, fun _ => rfl⟩ (by omega)
          · refine ok_iload_n 65 rfl rfl rfl (ok_iret 66 rfl rfl rfl ?_)
            have ei : i = n * n := by omega
            rw [ei] at i4
            exact ⟨_, rfl, f, Or.inr ⟨ht, Or.inr ⟨⟨k1, by omega⟩, fl.mp (i4.mp (by omega)), hno⟩⟩⟩
        · refine ok_iload 50 rfl rfl rfl (ok_if_eq 51 98 rfl rfl rfl (fun h81 => ?_) (fun h81 => ?_))
          · refine ok_iconst 59 rfl rfl (by decide) (ok_ist4 60 rfl rfl rfl (ok_inc5 61 rfl rfl rfl (by first | omega | (simp [up_if]; omega) | (simp [up_if] at *; omega)) (ok_goto 62 71 rfl rfl rfl ?_)))
            refine ih2 _ (i + 1) ⟨by omega, by omega, by omega, ?_⟩ (by omega)
            first
              | (refine ⟨fun _ => lt_ext (i4.mp (by omega)) ?_, fun _ => rfl⟩
                 have := bl_01 n1 hP i1 (by omega)
                 omega)
              | (refine ⟨fun y => absurd y (by decide), fun y => ?_⟩
                 exfalso
                 have y1 := y i i1 (by omega)
                 have y2 := i4.mpr (fun q c d => y q c (by omega))
                 omega)
          · refine ok_aload_n 52 rfl rfl rfl (ok_getR 53 rfl rfl fl_X12_75 rfl rfl (ok_iload 54 rfl rfl rfl (ok_zald 55 rfl rfl rfl (by first | omega | (simp [up_if]; omega) | (simp [up_if] at *; omega)) (ok_if_eq 56 98 rfl rfl rfl (fun h91 => ?_) (fun h91 => ?_)))))
            · refine ok_iconst 59 rfl rfl (by decide) (ok_ist4 60 rfl rfl rfl (ok_inc5 61 rfl rfl rfl (by first | omega | (simp [up_if]; omega) | (simp [up_if] at *; omega)) (ok_goto 62 71 rfl rfl rfl ?_)))
              refine ih2 _ (i + 1) ⟨by omega, by omega, by omega, ?_⟩ (by omega)
              first
                | (refine ⟨fun _ => lt_ext (i4.mp (by omega)) ?_, fun _ => rfl⟩
                   have := bl_01 n1 hP i1 (by omega)
                   omega)
                | (refine ⟨fun y => absurd y (by decide), fun y => ?_⟩
                   exfalso
                   have y1 := y i i1 (by omega)
                   have y2 := i4.mpr (fun q c d => y q c (by omega))
                   omega)
            · refine ok_iconst 57 rfl rfl (by decide) (ok_goto 58 99 rfl rfl rfl (ok_ist4 60 rfl rfl rfl (ok_inc5 61 rfl rfl rfl (by first | omega | (simp [up_if]; omega) | (simp [up_if] at *; omega)) (ok_goto 62 71 rfl rfl rfl ?_))))
              refine ih2 _ (i + 1) ⟨by omega, by omega, by omega, ?_⟩ (by omega)
              first
                | (refine ⟨fun _ => lt_ext (i4.mp (by omega)) ?_, fun _ => rfl⟩
                   have := bl_01 n1 hP i1 (by omega)
                   omega)
                | (refine ⟨fun y => absurd y (by decide), fun y => ?_⟩
                   exfalso
                   have y1 := y i i1 (by omega)
                   have y2 := i4.mpr (fun q c d => y q c (by omega))
                   omega)
    · refine ok_aload_n 18 rfl rfl rfl (ok_getR 19 rfl rfl fl_X12_75 rfl rfl (ok_iload_n 20 rfl rfl rfl (ok_aload_n 21 rfl rfl rfl (ok_getR 22 rfl rfl fl_X12_16 rfl rfl (ok_bipush 23 rfl rfl (by decide) (by decide) (ok_iload_n 24 rfl rfl rfl (ok_imul 25 rfl rfl (by first | omega | (simp [up_if]; omega) | (simp [up_if] at *; omega)) (ok_iload_n 26 rfl rfl rfl (ok_iadd 27 rfl rfl (by first | omega | (simp [up_if]; omega) | (simp [up_if] at *; omega)) (ok_iald 28 rfl rfl rfl (by first | omega | (simp [up_if]; omega) | (simp [up_if] at *; omega)) (ok_if_le 29 49 rfl rfl rfl (fun h42 => ?_) (fun h42 => ?_))))))))))))
      · refine ok_iconst 32 rfl rfl (by decide) (ok_zast 33 rfl rfl rfl (by first | omega | (simp [up_if]; omega) | (simp [up_if] at *; omega)) (by first | omega | (simp [up_if]; omega) | (simp [up_if] at *; omega)) (ok_inc3 34 rfl rfl rfl (by first | omega | (simp [up_if]; omega) | (simp [up_if] at *; omega)) (ok_goto 35 19 rfl rfl rfl ?_)))
        refine ih (k + 1) _ ⟨by omega, by omega, fr_up f (by simp [rgX]), lt_ext (fun q a b => by rw [up_nk _ _ _ _ (by omega)]; exact hl q a b) ?_⟩ (by omega)
        rw [up_same]
        omega
      · refine ok_iconst 30 rfl rfl (by decide) (ok_goto 31 50 rfl rfl rfl (ok_zast 33 rfl rfl rfl (by first | omega | (simp [up_if]; omega) | (simp [up_if] at *; omega)) (by first | omega | (simp [up_if]; omega) | (simp [up_if] at *; omega)) (ok_inc3 34 rfl rfl rfl (by first | omega | (simp [up_if]; omega) | (simp [up_if] at *; omega)) (ok_goto 35 19 rfl rfl rfl ?_))))
        refine ih (k + 1) _ ⟨by omega, by omega, fr_up f (by simp [rgX]), lt_ext (fun q a b => by rw [up_nk _ _ _ _ (by omega)]; exact hl q a b) ?_⟩ (by omega)
        rw [up_same]
        omega
  · refine ok_iconst 4 rfl rfl (by decide) (ok_iret 5 rfl rfl rfl ?_)
    exact ⟨_, rfl, fr.rf, Or.inl ⟨no1 a1 h5, rfl⟩⟩
