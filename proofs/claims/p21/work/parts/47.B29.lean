theorem wr_q (z : Int) : ∃ q : Int, wr z = z + 4294967296 * q ∧ -2147483648 ≤ wr z ∧ wr z ≤ 2147483647 := by
  have e : wr z = z.bmod 4294967296 := Int32.toInt_ofInt
  rw [e, Int.bmod_def]
  have g := Int.mul_ediv_add_emod z 4294967296
  have g1 := Int.emod_nonneg z (by decide : (4294967296 : Int) ≠ 0)
  have g2 := Int.emod_lt_of_pos z (by decide : (0 : Int) < 4294967296)
  by_cases q : z % ((4294967296 : Nat) : Int) < (((4294967296 : Nat) : Int) + 1) / 2
  · rw [if_pos q]
    exact ⟨-(z / 4294967296), by omega, by omega, by omega⟩
  · rw [if_neg q]
    exact ⟨-(z / 4294967296) - 1, by omega, by omega, by omega⟩
theorem wr_add (a b : Int) : wr (wr a + b) = wr (a + b) := by
  obtain ⟨q1, h1, h2, h3⟩ := wr_q a
  obtain ⟨q2, h4, h5, h6⟩ := wr_q (a + b)
  obtain ⟨q3, h7, h8, h9⟩ := wr_q (wr a + b)
  omega
theorem wr_sub {a b : Int} (h : -2147483648 ≤ a - b ∧ a - b ≤ 2147483647) : wr (wr a - wr b) = a - b := by
  obtain ⟨q1, h1, h2, h3⟩ := wr_q a
  obtain ⟨q2, h4, h5, h6⟩ := wr_q b
  obtain ⟨q3, h7, h8, h9⟩ := wr_q (wr a - wr b)
  omega
theorem fl_sum {f : Int → Int} {b : Int} (hb : 1 ≤ b) : ∀ {n : Nat}, (∀ k : Int, 0 ≤ k → k < n → 0 ≤ f k) → b * sm (fun k => f k / b) n ≤ sm f n ∧ sm f n ≤ b * sm (fun k => f k / b) n + n * (b - 1)
  | 0, _ => by simp [sm]
  | n + 1, h => by
    have ih := fl_sum hb (n := n) (fun k a c => h k a (by omega))
    have g := Int.mul_ediv_add_emod (f n) b
    have g1 := Int.emod_nonneg (f n) (by omega : b ≠ 0)
    have g2 := Int.emod_lt_of_pos (f n) (by omega : 0 < b)
    have e1 : sm f (n + 1) = sm f n + f n := rfl
    have e2 : sm (fun k => f k / b) (n + 1) = sm (fun k => f k / b) n + f n / b := rfl
    rw [e1, e2, Int.mul_add, show ((n + 1 : Nat) : Int) * (b - 1) = n * (b - 1) + (b - 1) by rw [Int.natCast_add, Int.add_mul]; simp]
    omega
theorem fl_div {b g X m : Int} (hb : 1 ≤ b) (hm : 0 ≤ m) (h1 : b * g ≤ X) (h2 : X ≤ b * g + m * (b - 1)) : (g ≤ X / b ∧ X / b ≤ g + m) ∧ g ≤ (X + b - 1) / b ∧ (X + b - 1) / b ≤ g + m := by
  have e1 : b * g = g * b := Int.mul_comm _ _
  have e2 : (g + m + 1) * b = g * b + m * b + b := by rw [Int.add_mul, Int.add_mul, Int.one_mul]
  have e3 : m * (b - 1) = m * b - m := by rw [Int.mul_sub, Int.mul_one]
  have c1 : X / b < g + m + 1 := Int.ediv_lt_of_lt_mul (by omega) (by omega)
  have c2 : (X + b - 1) / b < g + m + 1 := Int.ediv_lt_of_lt_mul (by omega) (by omega)
  have c3 : g ≤ X / b := Int.le_ediv_of_mul_le (by omega) (by omega)
  have c4 : g ≤ (X + b - 1) / b := Int.le_ediv_of_mul_le (by omega) (by omega)
  omega
theorem s_Mo_cut {σ : eS} {x b : Int} (hx : 0 ≤ x) (hb : 1 ≤ b) : MtI shB M_Mo_cut [vl x, vi b] σ (fun σ' z => σ' = σ ∧ z = wr (x / b)) := by
  refine Mt.of okM_Mo_cut (Nat.le_of_ble_eq_true rfl) (fun hk hg => ?_)
  refine ok_lload_n 0 rfl rfl rfl (ok_iload_n 1 rfl rfl rfl (ok_i2l 2 rfl rfl (ok_ldiv 3 rfl rfl (by first | omega | (simp [up_if]; omega) | (simp [up_if] at *; omega)) (by first | omega | (simp [up_if]; omega) | (simp [up_if] at *; omega)) (ok_l2iW 4 rfl rfl (ok_iret 5 rfl rfl rfl ?_)))))
  exact ⟨_, rfl, rfl, rfl⟩
theorem s_Mo_up {σ : eS} {x b : Int} (hx : 0 ≤ x ∧ x ≤ 99999999999) (hb : 1 ≤ b ∧ b ≤ 999999) : MtI shB M_Mo_up [vl x, vi b] σ (fun σ' z => σ' = σ ∧ z = wr ((x + b - 1) / b)) := by
  refine Mt.of okM_Mo_up (Nat.le_of_ble_eq_true rfl) (fun hk hg => ?_)
  refine ok_lload_n 0 rfl rfl rfl (ok_iload_n 1 rfl rfl rfl (ok_i2l 2 rfl rfl (ok_ladd 3 rfl rfl (by first | omega | (simp [up_if]; omega) | (simp [up_if] at *; omega)) (ok_lconst (w := 1) 4 rfl rfl rfl (by decide) (ok_lsub 5 rfl rfl (by first | omega | (simp [up_if]; omega) | (simp [up_if] at *; omega)) (ok_iload_n 6 rfl rfl rfl (ok_i2l 7 rfl rfl (ok_ldiv 8 rfl rfl (by first | omega | (simp [up_if]; omega) | (simp [up_if] at *; omega)) (by first | omega | (simp [up_if]; omega) | (simp [up_if] at *; omega)) (ok_l2iW 9 rfl rfl (ok_iret 10 rfl rfl rfl ?_))))))))))
  exact ⟨_, rfl, rfl, rfl⟩
abbrev rgH : Nat → Int → Prop := fun c _ => c = 15 ∨ c = 16
def lhB (σ : eS) (n : Int) : Prop := ∀ k, ((0 ≤ k ∧ k < n) ∨ (8 ≤ k ∧ k < 8 + n)) → 0 ≤ σ 15 k ∧ σ 15 k ≤ 8 ∧ 0 ≤ σ 16 k ∧ σ 16 k ≤ 8
def lhT (σ : eS) : Prop := 0 ≤ σ 15 16 ∧ σ 15 16 ≤ 64 ∧ 0 ≤ σ 16 16 ∧ σ 16 16 ≤ 64
theorem up15 (σ : eS) (k z j : Int) : up σ 15 k z 2 j = σ 2 j := up_ne _ _ _ _ (by decide)
theorem up16 (σ : eS) (k z j : Int) : up σ 16 k z 2 j = σ 2 j := up_ne _ _ _ _ (by decide)
theorem s_Mo_laysBounds {σ : eS} {s : Int} (hB : iB1 σ) (ht : tabB σ s) : MtV shB M_Mo_laysBounds [vr 0, vi s] σ (fun σ' => fr rgH σ σ' ∧ lhB σ' (σ 1 s) ∧ lhT σ') := by
  refine Mt.of okM_Mo_laysBounds (Nat.le_of_ble_eq_true rfl) (fun hk hg => ?_)
  obtain ⟨u1, u2, u3⟩ := ht
  have tn := hB.1 s u1 u2
  obtain ⟨n, en⟩ : ∃ n, n = σ 1 s := ⟨_, rfl⟩
  obtain ⟨b, eb⟩ : ∃ b, b = σ 2 s := ⟨_, rfl⟩
  have hb : 1 ≤ b ∧ b ≤ 999999 := by have := tn.2.2 (by omega); omega
  have n1 : 1 ≤ n ∧ n ≤ 8 := by omega
  rw [← en]
  have E : ∀ τ : eS, fr rgH σ τ → iB1 τ ∧ τ 1 s = n ∧ cB τ s = cB σ s ∧ rowB τ s = rowB σ s ∧ colB τ s = colB σ s := fun τ g => by
    have e1 : ∀ k, τ 1 k = σ 1 k := fun k => g 1 k (by simp [rgH])
    have e3 : ∀ k, τ 3 k = σ 3 k := fun k => g 3 k (by simp [rgH])
    refine ⟨iB1_frS hB g (fun c k q => by simp only [rgH]; omega), by rw [e1, en], ?_, ?_, ?_⟩
    · funext a b; unfold cB; rw [e1, e3]
    · funext a; unfold rowB cB; simp only [e1, e3]
    · funext a; unfold colB cB; simp only [e1, e3]
  have A : ∀ (τ : eS) (i j : Int), fr rgH σ τ → 0 ≤ i ∧ i < n → 0 ≤ j ∧ j < n → MtI shB M_Mo_at [vr 0, vi s, vi i, vi j] τ (fun σ' z => σ' = τ ∧ z = cB σ s i j) := fun τ i j g hi hj => by
    obtain ⟨x1, x2, x3, x4, x5⟩ := E τ g
    rw [← x3]; exact s_Mo_at x1 ⟨u1, u2⟩ (by rw [x2]; exact hi) (by rw [x2]; exact hj)
  have R : ∀ (τ : eS) (i : Int), fr rgH σ τ → 0 ≤ i ∧ i < n → MtL shB M_Mo_rowOf [vr 0, vi s, vi i] τ (fun σ' z => σ' = τ ∧ z = rowB σ s i) := fun τ i g hi => by
    obtain ⟨x1, x2, x3, x4, x5⟩ := E τ g
    rw [← x4]; exact s_Mo_rowOf x1 ⟨u1, u2⟩ (by rw [x2]; exact hi)
  have C : ∀ (τ : eS) (i : Int), fr rgH σ τ → 0 ≤ i ∧ i < n → MtL shB M_Mo_columnOf [vr 0, vi s, vi i] τ (fun σ' z => σ' = τ ∧ z = colB σ s i) := fun τ i g hi => by
    obtain ⟨x1, x2, x3, x4, x5⟩ := E τ g
    rw [← x5]; exact s_Mo_columnOf x1 ⟨u1, u2⟩ (by rw [x2]; exact hi)
  refine ok_aload_n 0 rfl rfl rfl (ok_getR 1 rfl rfl fl_X12_7 rfl rfl (ok_iload_n 2 rfl rfl rfl (ok_iald 3 rfl rfl rfl (by first | omega | (simp [up_if]; omega) | (simp [up_if] at *; omega)) ?_)))
  rw [← en]
  refine ok_ist2 4 rfl rfl rfl (ok_lconst (w := 0) 5 rfl rfl rfl (by decide) (ok_lst3 6 rfl rfl rfl (ok_iconst 7 rfl rfl (by decide) (ok_ist5 8 rfl rfl rfl (ok_iconst 9 rfl rfl (by decide) (ok_ist6 10 rfl rfl rfl ?_))))))
  refine lpO4 (fun (t v i : Int) (_ : eS) => [some (vr 0), some (vi s), some (vi n), some (vl t), none, some (vi v), some (vi i), none, none, none]) (fun _ _ _ ρ => ρ) (fun t v i ρ => 0 ≤ i ∧ i ≤ n ∧ fr rgH σ ρ ∧ 0 ≤ t ∧ t ≤ 799999992 * i ∧ lhB ρ i ∧ ∃ G, v = wr G ∧ b * G ≤ t ∧ t ≤ b * G + 8 * i * (b - 1)) (fun _ _ i _ => (n - i).toNat) ?_ 0 0 0 σ ⟨by omega, by omega, fr.rf, by omega, by omega, fun k q => by omega, 0, rfl, by omega, by omega⟩
  rintro t v i ρ ⟨i1, i2, f, t1, t2, lb, G, ev, G1, G2⟩ ih
  have e2 : ρ 2 s = b := by rw [f 2 s (by simp [rgH]), eb]
  refine ok_iload 11 rfl rfl rfl (ok_iload_n 12 rfl rfl rfl (ok_icmp_ge 13 223 rfl rfl rfl (fun h18 => ?_) (fun h18 => ?_)))
  · have ei : i = n := by omega
    have q0 := fl_div hb.1 (show 0 ≤ 8 * i by omega) G1 G2
    obtain ⟨q1, q2⟩ := q0
    refine ok_aload_n 130 rfl rfl rfl (ok_getR 131 rfl rfl fl_X12_57 rfl rfl (ok_bipush 132 rfl rfl (by decide) (by decide) (ok_lload_n 133 rfl rfl rfl (ok_aload_n 134 rfl rfl rfl (ok_getR 135 rfl rfl fl_X12_13 rfl rfl (ok_iload_n 136 rfl rfl rfl (ok_iald 137 rfl rfl rfl (by first | omega | (simp [up_if]; omega) | (simp [up_if] at *; omega)) ?_)))))))
    rw [e2]
    refine ok_callSI (M' := M_Mo_cut) (as := [_, _]) 138 rfl rfl ml_X12_323 (s_Mo_cut t1 hb.1) ⟨Nat.le_of_ble_eq_true rfl, Nat.le_of_ble_eq_true rfl⟩ rfl (Nat.le_of_ble_eq_true rfl) (fun σ' z hz => ?_)
    rw [hz.1, hz.2]
    clear hz z σ'
    rw [ev]
    refine ok_iload 139 rfl rfl rfl (ok_isubW 140 rfl rfl ?_)
    rw [wr_sub ⟨by omega, by omega⟩]
    refine ok_iast 141 rfl rfl rfl (by first | omega | (simp [up_if]; omega) | (simp [up_if] at *; omega)) (ok_aload_n 142 rfl rfl rfl (ok_getR 143 rfl rfl fl_X12_60 rfl rfl (ok_bipush 144 rfl rfl (by decide) (by decide) (ok_lload_n 145 rfl rfl rfl (ok_aload_n 146 rfl rfl rfl (ok_getR 147 rfl rfl fl_X12_13 rfl rfl (ok_iload_n 148 rfl rfl rfl (ok_iald 149 rfl rfl rfl (by first | omega | (simp [up_if]; omega) | (simp [up_if] at *; omega)) ?_))))))))
    rw [up15, e2]
    refine ok_callSI (M' := M_Mo_up) (as := [_, _]) 150 rfl rfl ml_X12_327 (s_Mo_up ⟨by omega, by omega⟩ hb) ⟨Nat.le_of_ble_eq_true rfl, Nat.le_of_ble_eq_true rfl⟩ rfl (Nat.le_of_ble_eq_true rfl) (fun σ' z hz => ?_)
    rw [hz.1, hz.2]
    clear hz z σ'
    refine ok_iload 151 rfl rfl rfl (ok_isubW 152 rfl rfl ?_)
    rw [wr_sub ⟨by omega, by omega⟩]
    refine ok_iast 153 rfl rfl rfl (by first | omega | (simp [up_if]; omega) | (simp [up_if] at *; omega)) (ok_vret 154 rfl rfl rfl ?_)
    refine ⟨rfl, fr_up (fr_up f (by simp [rgH])) (by simp [rgH]), fun k q => ?_, ?_⟩
    · have old := lb k (by omega)
      simp only [up_if]
      rw [if_neg (by omega), if_neg (by omega), if_neg (by omega), if_neg (by omega)]
      exact old
    · unfold lhT
      simp only [up_if]
      simp
      omega
  · refine ok_iconst 14 rfl rfl (by decide) (ok_ist7 15 rfl rfl rfl (ok_iconst 16 rfl rfl (by decide) (ok_ist8 17 rfl rfl rfl (ok_iconst 18 rfl rfl (by decide) (ok_ist9 19 rfl rfl rfl ?_)))))
    have il : i < n := by omega
    refine lpO3 (fun (a c j : Int) => [some (vr 0), some (vi s), some (vi n), some (vl t), none, some (vi v), some (vi i), some (vi a), some (vi c), some (vi j)]) (fun _ _ _ => ρ) (fun a c j => 0 ≤ j ∧ j ≤ n ∧ a = sm (fun k => cB σ s i k / b) j.toNat ∧ c = sm (fun k => cB σ s k i / b) j.toNat) (fun _ _ j => (n - j).toNat) ?_ 0 0 0 ⟨by omega, by omega, rfl, rfl⟩
    rintro a c j ⟨j1, j2, ea, ec⟩ ih2
    have sa := sm_bd (f := fun k => cB σ s i k / b) (B := 99999999) (by decide) (n := j.toNat) (fun k a c => div_bd (cB_bd hB ⟨u1, u2⟩ ⟨by omega, by omega⟩ ⟨by omega, by omega⟩) hb.1)
    have sc := sm_bd (f := fun k => cB σ s k i / b) (B := 99999999) (by decide) (n := j.toNat) (fun k a c => div_bd (cB_bd hB ⟨u1, u2⟩ ⟨by omega, by omega⟩ ⟨by omega, by omega⟩) hb.1)
    rw [← ea] at sa
    rw [← ec] at sc
    refine ok_iload 20 rfl rfl rfl (ok_iload_n 21 rfl rfl rfl (ok_icmp_ge 22 90 rfl rfl rfl (fun h33 => ?_) (fun h33 => ?_)))
    · have ej : j = n := by omega
      have rb := rowB_bd hB ⟨u1, u2⟩ (i := i) ⟨by omega, by omega⟩
      have cb := colB_bd hB ⟨u1, u2⟩ (j := i) ⟨by omega, by omega⟩
      have fr1 := fl_sum (f := fun k => cB σ s i k) hb.1 (n := n.toNat) (fun k a c => (cB_bd hB ⟨u1, u2⟩ (i := i) (j := k) ⟨by omega, by omega⟩ ⟨by omega, by omega⟩).1)
      have fc1 := fl_sum (f := fun k => cB σ s k i) hb.1 (n := n.toNat) (fun k a c => (cB_bd hB ⟨u1, u2⟩ (i := k) (j := i) ⟨by omega, by omega⟩ ⟨by omega, by omega⟩).1)
      have er : sm (fun k => cB σ s i k) n.toNat = rowB σ s i := by unfold rowB; rw [en]
      have el : sm (fun k => cB σ s k i) n.toNat = colB σ s i := by unfold colB; rw [en]
      rw [er, show ((n.toNat : Nat) : Int) = n by omega] at fr1
      rw [el, show ((n.toNat : Nat) : Int) = n by omega] at fc1
      rw [ej] at ea ec
      rw [← ea] at fr1
      rw [← ec] at fc1
      obtain ⟨q1, q2⟩ := fl_div hb.1 (by omega) fr1.1 fr1.2
      obtain ⟨q3, q4⟩ := fl_div hb.1 (by omega) fc1.1 fc1.2
      have w1 := wr_id (z := rowB σ s i / b) ⟨by omega, by omega⟩
      have w2 := wr_id (z := (rowB σ s i + b - 1) / b) ⟨by omega, by omega⟩
      have w3 := wr_id (z := colB σ s i / b) ⟨by omega, by omega⟩
      have w4 := wr_id (z := (colB σ s i + b - 1) / b) ⟨by omega, by omega⟩
      clear ih2
      refine ok_aload_n 53 rfl rfl rfl (ok_getR 54 rfl rfl fl_X12_57 rfl rfl (ok_iload 55 rfl rfl rfl (ok_aload_n 56 rfl rfl rfl (ok_iload_n 57 rfl rfl rfl (ok_iload 58 rfl rfl rfl (ok_callVL (M' := M_Mo_rowOf) (as := [_, _]) 59 rfl rfl ml_X12_114 (R _ _ f ⟨by omega, by omega⟩) rfl rfl (Nat.le_of_ble_eq_true rfl) ⟨Nat.le_of_ble_eq_true rfl, Nat.le_of_ble_eq_true rfl⟩ rfl (Nat.le_of_ble_eq_true rfl) (fun σ' z hz => ?_)))))))
      rw [hz.1, hz.2]
      clear hz z σ'
      refine ok_aload_n 60 rfl rfl rfl (ok_getR 61 rfl rfl fl_X12_13 rfl rfl (ok_iload_n 62 rfl rfl rfl (ok_iald 63 rfl rfl rfl (by first | omega | (simp [up_if]; omega) | (simp [up_if] at *; omega)) ?_)))
      rw [e2]
      refine ok_callSI (M' := M_Mo_cut) (as := [_, _]) 64 rfl rfl ml_X12_323 (s_Mo_cut rb.1 hb.1) ⟨Nat.le_of_ble_eq_true rfl, Nat.le_of_ble_eq_true rfl⟩ rfl (Nat.le_of_ble_eq_true rfl) (fun σ' z hz => ?_)
      rw [hz.1, hz.2]
      clear hz z σ'
      rw [w1]
      refine ok_iload 65 rfl rfl rfl (ok_isub 66 rfl rfl (by first | omega | (simp [up_if]; omega) | (simp [up_if] at *; omega)) (ok_iast 67 rfl rfl rfl (by first | omega | (simp [up_if]; omega) | (simp [up_if] at *; omega)) (ok_aload_n 68 rfl rfl rfl (ok_getR 69 rfl rfl fl_X12_60 rfl rfl (ok_iload 70 rfl rfl rfl (ok_aload_n 71 rfl rfl rfl (ok_iload_n 72 rfl rfl rfl (ok_iload 73 rfl rfl rfl (ok_callVL (M' := M_Mo_rowOf) (as := [_, _]) 74 rfl rfl ml_X12_114 (R _ _ (fr_up f (by simp [rgH])) ⟨by omega, by omega⟩) rfl rfl (Nat.le_of_ble_eq_true rfl) ⟨Nat.le_of_ble_eq_true rfl, Nat.le_of_ble_eq_true rfl⟩ rfl (Nat.le_of_ble_eq_true rfl) (fun σ' z hz => ?_))))))))))
      rw [hz.1, hz.2]
      clear hz z σ'
      refine ok_aload_n 75 rfl rfl rfl (ok_getR 76 rfl rfl fl_X12_13 rfl rfl (ok_iload_n 77 rfl rfl rfl (ok_iald 78 rfl rfl rfl (by first | omega | (simp [up_if]; omega) | (simp [up_if] at *; omega)) ?_)))
      rw [up15, e2]
      refine ok_callSI (M' := M_Mo_up) (as := [_, _]) 79 rfl rfl ml_X12_327 (s_Mo_up ⟨by omega, by omega⟩ hb) ⟨Nat.le_of_ble_eq_true rfl, Nat.le_of_ble_eq_true rfl⟩ rfl (Nat.le_of_ble_eq_true rfl) (fun σ' z hz => ?_)
      rw [hz.1, hz.2]
      clear hz z σ'
      rw [w2]
      refine ok_iload 80 rfl rfl rfl (ok_isub 81 rfl rfl (by first | omega | (simp [up_if]; omega) | (simp [up_if] at *; omega)) (ok_iast 82 rfl rfl rfl (by first | omega | (simp [up_if]; omega) | (simp [up_if] at *; omega)) (ok_aload_n 83 rfl rfl rfl (ok_getR 84 rfl rfl fl_X12_57 rfl rfl (ok_bipush 85 rfl rfl (by decide) (by decide) (ok_iload 86 rfl rfl rfl (ok_iadd 87 rfl rfl (by first | omega | (simp [up_if]; omega) | (simp [up_if] at *; omega)) (ok_aload_n 88 rfl rfl rfl (ok_iload_n 89 rfl rfl rfl (ok_iload 90 rfl rfl rfl (ok_callVL (M' := M_Mo_columnOf) (as := [_, _]) 91 rfl rfl ml_X12_122 (C _ _ (fr_up (fr_up f (by simp [rgH])) (by simp [rgH])) ⟨by omega, by omega⟩) rfl rfl (Nat.le_of_ble_eq_true rfl) ⟨Nat.le_of_ble_eq_true rfl, Nat.le_of_ble_eq_true rfl⟩ rfl (Nat.le_of_ble_eq_true rfl) (fun σ' z hz => ?_))))))))))))
      rw [hz.1, hz.2]
      clear hz z σ'
      refine ok_aload_n 92 rfl rfl rfl (ok_getR 93 rfl rfl fl_X12_13 rfl rfl (ok_iload_n 94 rfl rfl rfl (ok_iald 95 rfl rfl rfl (by first | omega | (simp [up_if]; omega) | (simp [up_if] at *; omega)) ?_)))
      rw [up16, up15, e2]
      refine ok_callSI (M' := M_Mo_cut) (as := [_, _]) 96 rfl rfl ml_X12_323 (s_Mo_cut cb.1 hb.1) ⟨Nat.le_of_ble_eq_true rfl, Nat.le_of_ble_eq_true rfl⟩ rfl (Nat.le_of_ble_eq_true rfl) (fun σ' z hz => ?_)
      rw [hz.1, hz.2]
      clear hz z σ'
      rw [w3]
      refine ok_iload 97 rfl rfl rfl (ok_isub 98 rfl rfl (by first | omega | (simp [up_if]; omega) | (simp [up_if] at *; omega)) (ok_iast 99 rfl rfl rfl (by first | omega | (simp [up_if]; omega) | (simp [up_if] at *; omega)) (ok_aload_n 100 rfl rfl rfl (ok_getR 101 rfl rfl fl_X12_60 rfl rfl (ok_bipush 102 rfl rfl (by decide) (by decide) (ok_iload 103 rfl rfl rfl (ok_iadd 104 rfl rfl (by first | omega | (simp [up_if]; omega) | (simp [up_if] at *; omega)) (ok_aload_n 105 rfl rfl rfl (ok_iload_n 106 rfl rfl rfl (ok_iload 107 rfl rfl rfl (ok_callVL (M' := M_Mo_columnOf) (as := [_, _]) 108 rfl rfl ml_X12_122 (C _ _ (fr_up (fr_up (fr_up f (by simp [rgH])) (by simp [rgH])) (by simp [rgH])) ⟨by omega, by omega⟩) rfl rfl (Nat.le_of_ble_eq_true rfl) ⟨Nat.le_of_ble_eq_true rfl, Nat.le_of_ble_eq_true rfl⟩ rfl (Nat.le_of_ble_eq_true rfl) (fun σ' z hz => ?_))))))))))))
      rw [hz.1, hz.2]
      clear hz z σ'
      refine ok_aload_n 109 rfl rfl rfl (ok_getR 110 rfl rfl fl_X12_13 rfl rfl (ok_iload_n 111 rfl rfl rfl (ok_iald 112 rfl rfl rfl (by first | omega | (simp [up_if]; omega) | (simp [up_if] at *; omega)) ?_)))
      rw [up15, up16, up15, e2]
      refine ok_callSI (M' := M_Mo_up) (as := [_, _]) 113 rfl rfl ml_X12_327 (s_Mo_up ⟨by omega, by omega⟩ hb) ⟨Nat.le_of_ble_eq_true rfl, Nat.le_of_ble_eq_true rfl⟩ rfl (Nat.le_of_ble_eq_true rfl) (fun σ' z hz => ?_)
      rw [hz.1, hz.2]
      clear hz z σ'
      rw [w4]
      refine ok_iload 114 rfl rfl rfl (ok_isub 115 rfl rfl (by first | omega | (simp [up_if]; omega) | (simp [up_if] at *; omega)) (ok_iast 116 rfl rfl rfl (by first | omega | (simp [up_if]; omega) | (simp [up_if] at *; omega)) (ok_lload_n 117 rfl rfl rfl (ok_aload_n 118 rfl rfl rfl (ok_iload_n 119 rfl rfl rfl (ok_iload 120 rfl rfl rfl (ok_callVL (M' := M_Mo_rowOf) (as := [_, _]) 121 rfl rfl ml_X12_114 (R _ _ (fr_up (fr_up (fr_up (fr_up f (by simp [rgH])) (by simp [rgH])) (by simp [rgH])) (by simp [rgH])) ⟨by omega, by omega⟩) rfl rfl (Nat.le_of_ble_eq_true rfl) ⟨Nat.le_of_ble_eq_true rfl, Nat.le_of_ble_eq_true rfl⟩ rfl (Nat.le_of_ble_eq_true rfl) (fun σ' z hz => ?_))))))))
      rw [hz.1, hz.2]
      clear hz z σ'
      refine ok_ladd 122 rfl rfl (by first | omega | (simp [up_if]; omega) | (simp [up_if] at *; omega)) (ok_lst3 123 rfl rfl rfl (ok_iload 124 rfl rfl rfl (ok_iload 125 rfl rfl rfl (ok_iaddW 126 rfl rfl (ok_ist5 127 rfl rfl rfl (ok_inc6 128 rfl rfl rfl (by first | omega | (simp [up_if]; omega) | (simp [up_if] at *; omega)) (ok_goto 129 15 rfl rfl rfl ?_)))))))
      refine ok_fg [some (vr 0), some (vi s), some (vi n), some (vl _), none, some (vi _), some (vi (i + 1)), none, none, none] ⟨rfl, rfl, rfl, rfl, rfl, rfl, trivial⟩ (ih _ _ (i + 1) _ ⟨by omega, by omega, fr_up (fr_up (fr_up (fr_up f (by simp [rgH])) (by simp [rgH])) (by simp [rgH])) (by simp [rgH]), by omega, by omega, fun k q => ?_, G + a, by rw [ev, wr_add], ?_, ?_⟩ (by omega))
      · have old := lb k
        simp only [up_if]
        by_cases y1 : k = i
        · subst y1; simp [show ¬ (k = 8 + k) by omega]; omega
        · by_cases y2 : k = 8 + i
          · subst y2; simp; omega
          · rw [if_neg (by omega), if_neg (by omega), if_neg (by omega), if_neg (by omega), if_neg (by omega), if_neg (by omega), if_neg (by omega), if_neg (by omega)]
            exact old (by omega)
      · rw [Int.mul_add]; omega
      · have m1 : n * (b - 1) ≤ 8 * (b - 1) := Int.mul_le_mul_of_nonneg_right (by omega) (by omega)
        rw [Int.mul_add, show 8 * (i + 1) * (b - 1) = 8 * i * (b - 1) + 8 * (b - 1) by rw [Int.mul_add, Int.add_mul]; omega]
        omega
    · have d1 := div_bd (cB_bd hB ⟨u1, u2⟩ (i := i) (j := j) ⟨by omega, by omega⟩ ⟨by omega, by omega⟩) hb.1
      have d2 := div_bd (cB_bd hB ⟨u1, u2⟩ (i := j) (j := i) ⟨by omega, by omega⟩ ⟨by omega, by omega⟩) hb.1
      have d3 := cB_bd hB ⟨u1, u2⟩ (i := i) (j := j) ⟨by omega, by omega⟩ ⟨by omega, by omega⟩
      have d4 := cB_bd hB ⟨u1, u2⟩ (i := j) (j := i) ⟨by omega, by omega⟩ ⟨by omega, by omega⟩
      have w1 := wr_id (z := cB σ s i j / b) ⟨by omega, by omega⟩
      have w2 := wr_id (z := cB σ s j i / b) ⟨by omega, by omega⟩
      have s1 := sm_s (fun k => cB σ s i k / b) j1
      have s2 := sm_s (fun k => cB σ s k i / b) j1
      refine ok_iload 23 rfl rfl rfl (ok_aload_n 24 rfl rfl rfl (ok_iload_n 25 rfl rfl rfl (ok_iload 26 rfl rfl rfl (ok_iload 27 rfl rfl rfl (ok_callVI (M' := M_Mo_at) (as := [_, _, _]) 28 rfl rfl ml_X12_107 (A _ _ _ f ⟨by omega, by omega⟩ ⟨by omega, by omega⟩) rfl rfl (Nat.le_of_ble_eq_true rfl) ⟨Nat.le_of_ble_eq_true rfl, Nat.le_of_ble_eq_true rfl⟩ rfl (Nat.le_of_ble_eq_true rfl) (fun σ' z hz => ?_))))))
      rw [hz.1, hz.2]
      clear hz z σ'
      refine ok_i2l 29 rfl rfl (ok_aload_n 30 rfl rfl rfl (ok_getR 31 rfl rfl fl_X12_13 rfl rfl (ok_iload_n 32 rfl rfl rfl (ok_iald 33 rfl rfl rfl (by first | omega | (simp [up_if]; omega) | (simp [up_if] at *; omega)) ?_))))
      rw [e2]
      refine ok_callSI (M' := M_Mo_cut) (as := [_, _]) 34 rfl rfl ml_X12_323 (s_Mo_cut d3.1 hb.1) ⟨Nat.le_of_ble_eq_true rfl, Nat.le_of_ble_eq_true rfl⟩ rfl (Nat.le_of_ble_eq_true rfl) (fun σ' z hz => ?_)
      rw [hz.1, hz.2]
      clear hz z σ'
      rw [w1]
      refine ok_iadd 35 rfl rfl (by first | omega | (simp [up_if]; omega) | (simp [up_if] at *; omega)) (ok_ist7 36 rfl rfl rfl (ok_iload 37 rfl rfl rfl (ok_aload_n 38 rfl rfl rfl (ok_iload_n 39 rfl rfl rfl (ok_iload 40 rfl rfl rfl (ok_iload 41 rfl rfl rfl (ok_callVI (M' := M_Mo_at) (as := [_, _, _]) 42 rfl rfl ml_X12_107 (A _ _ _ f ⟨by omega, by omega⟩ ⟨by omega, by omega⟩) rfl rfl (Nat.le_of_ble_eq_true rfl) ⟨Nat.le_of_ble_eq_true rfl, Nat.le_of_ble_eq_true rfl⟩ rfl (Nat.le_of_ble_eq_true rfl) (fun σ' z hz => ?_))))))))
      rw [hz.1, hz.2]
      clear hz z σ'
      refine ok_i2l 43 rfl rfl (ok_aload_n 44 rfl rfl rfl (ok_getR 45 rfl rfl fl_X12_13 rfl rfl (ok_iload_n 46 rfl rfl rfl (ok_iald 47 rfl rfl rfl (by first | omega | (simp [up_if]; omega) | (simp [up_if] at *; omega)) ?_))))
      rw [e2]
      refine ok_callSI (M' := M_Mo_cut) (as := [_, _]) 48 rfl rfl ml_X12_323 (s_Mo_cut d4.1 hb.1) ⟨Nat.le_of_ble_eq_true rfl, Nat.le_of_ble_eq_true rfl⟩ rfl (Nat.le_of_ble_eq_true rfl) (fun σ' z hz => ?_)
      rw [hz.1, hz.2]
      clear hz z σ'
      rw [w2]
      refine ok_iadd 49 rfl rfl (by first | omega | (simp [up_if]; omega) | (simp [up_if] at *; omega)) (ok_ist8 50 rfl rfl rfl (ok_inc9 51 rfl rfl rfl (by first | omega | (simp [up_if]; omega) | (simp [up_if] at *; omega)) (ok_goto 52 30 rfl rfl rfl ?_)))
      exact ih2 _ _ (j + 1) ⟨by omega, by omega, by rw [s1, ea], by rw [s2, ec]⟩ (by omega)
