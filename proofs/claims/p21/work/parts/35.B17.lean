theorem ix_inj {n r j r' j' : Int} (hn : 1 ≤ n ∧ n ≤ 8) (hj : 0 ≤ j ∧ j < n) (hj' : 0 ≤ j' ∧ j' < n) (h : n * r + j = n * r' + j') : r = r' ∧ j = j' := by
  have : n = 1 ∨ n = 2 ∨ n = 3 ∨ n = 4 ∨ n = 5 ∨ n = 6 ∨ n = 7 ∨ n = 8 := by omega
  rcases this with rfl | rfl | rfl | rfl | rfl | rfl | rfl | rfl <;> omega
theorem sm_sub (f g : Int → Int) : ∀ n, sm (fun k => f k - g k) n = sm f n - sm g n
  | 0 => rfl
  | n + 1 => by
    have h := sm_sub f g n
    show sm (fun k => f k - g k) n + (f n - g n) = sm f n + f n - (sm g n + g n)
    omega
theorem sm_one {x : Int} (v : Int) : ∀ {n : Nat}, 0 ≤ x → x < n → sm (fun k => if k = x then v else 0) n = v
  | 0, h0, h => by omega
  | n + 1, h0, h => by
    show sm (fun k => if k = x then v else 0) n + (if (n : Int) = x then v else 0) = v
    by_cases q : (n : Int) = x
    · rw [if_pos q]
      have : sm (fun k => if k = x then v else 0) n = sm (fun _ => 0) n := sm_cg (fun k a b => if_neg (by omega))
      have z : ∀ m : Nat, sm (fun _ => 0) m = 0 := fun m => by induction m with
        | zero => rfl
        | succ m ih => show sm (fun _ => 0) m + 0 = 0; omega
      rw [this, z]
      omega
    · rw [if_neg q, sm_one v h0 (by omega)]
      omega
theorem sm_le2 {f g : Int → Int} : ∀ {n : Nat}, (∀ k : Int, 0 ≤ k → k < n → f k ≤ g k) → sm f n ≤ sm g n
  | 0, _ => Int.le_refl _
  | n + 1, h => by
    have h1 := sm_le2 (n := n) (fun k a b => h k a (by omega))
    have h2 := h n (by omega) (by omega)
    show sm f n + f n ≤ sm g n + g n
    omega
theorem sm_less {f g : Int → Int} {x : Int} : ∀ {n : Nat}, (∀ k : Int, 0 ≤ k → k < n → f k ≤ g k) → 0 ≤ x → x < n → f x + 1 ≤ g x → sm f n + 1 ≤ sm g n
  | 0, h, h0, hx, hl => by omega
  | n + 1, h, h0, hx, hl => by
    show sm f n + f n + 1 ≤ sm g n + g n
    have h2 := h n (by omega) (by omega)
    by_cases q : x = n
    · have h1 := sm_le2 (n := n) (fun k a b => h k a (by omega))
      rw [q] at hl
      omega
    · have h1 := sm_less (n := n) (fun k a b => h k a (by omega)) h0 (by omega) hl
      omega
/-- how many numbers of the work are above 0 -/
def np (σ : eS) : Int := sm (fun k => if 0 < σ 9 k then 1 else 0) (σ 0 22 * σ 0 22).toNat
theorem EvW_bd {n m : Int} {w : Int → Int → Int} (h : EvW n w m) {i j : Int} (hi : 0 ≤ i ∧ i < n) (hj : 0 ≤ j ∧ j < n) : w i j ≤ m := by
  have := sm_le (f := fun j => w i j) (n := n.toNat) (fun k a b => h.1 i k hi.1 hi.2 a (by omega)) j hj.1 (by omega)
  rwa [h.2.1 i hi.1 hi.2] at this
/-- the work less a choice -/
def Qpl (σ : eS) (m : Int) (σ' : eS) (z : Int) : Prop := 1 ≤ z ∧ z ≤ m ∧ fr (fun c _ => c = 9 ∨ c = 10 ∨ c = 11) σ σ' ∧ EvW (σ 0 22) (wk σ') (m - z) ∧ np σ' + 1 ≤ np σ ∧ chB σ (σ 0 22) 1 (fun i => σ' 11 i)
theorem s_Mo_peels {σ : eS} {r m : Int} (h : nW σ) (he : EvW (σ 0 22) (wk σ) m) (hm : 1 ≤ m ∧ m ≤ 799999992) : MtI shB M_Mo_peels [vr 0, vi r] σ (Qpl σ m) := by
  refine Mt.of okM_Mo_peels (Nat.le_of_ble_eq_true rfl) (fun hk hg => ?_)
  obtain ⟨n, en⟩ : ∃ x, x = σ 0 22 := ⟨_, rfl⟩
  have hn : 1 ≤ n ∧ n ≤ 8 := by rw [en]; exact h
  obtain ⟨sq1, sq2⟩ := sq8 (n := n) ⟨by omega, by omega⟩
  have hw : wBd σ := fun i j a b c d => ⟨he.1 i j a b c d, Int.le_trans (EvW_bd he ⟨a, b⟩ ⟨c, d⟩) hm.2⟩
  refine ok_aload_n 0 rfl rfl rfl (ok_iload_n 1 rfl rfl rfl (ok_callVV (M' := M_Mo_choose) (as := [_]) 2 rfl rfl ml_X12_267 (s_Mo_choose h hw he hm.1) rfl rfl (Nat.le_of_ble_eq_true rfl) ⟨Nat.le_of_ble_eq_true rfl, Nat.le_of_ble_eq_true rfl⟩ rfl (Nat.le_of_ble_eq_true rfl) (fun τ hq => ?_)))
  rw [← en] at hq he
  obtain ⟨f1, hp, hc⟩ := hq
  have t22 : τ 0 22 = n := by rw [f1 0 22 (by omega), en]
  have tn : nW τ := h.fr' (by rw [t22, en])
  have twk : wk τ = wk σ := by funext a b; unfold wk; rw [f1 0 22 (by omega), f1 9 _ (by omega)]
  have hcb : ∀ i, 0 ≤ i → i < n → 1 ≤ wk σ i (τ 11 i) ∧ wk σ i (τ 11 i) ≤ m := fun i a b => ⟨hc i a b, EvW_bd he ⟨a, b⟩ (hp.1 i a b)⟩
  refine ok_ldcw 3 (799999992) rfl rfl kc_X12_270 (by decide) (ok_ist2 4 rfl rfl rfl (ok_iconst 5 rfl rfl (by decide) (ok_ist3 6 rfl rfl rfl ?_)))
  refine lpO2 (fun w i : Int => [some (vr 0), some (vi r), some (vi w), some (vi i)]) (fun _ _ => τ) (fun w i => 0 ≤ i ∧ i ≤ n ∧ 1 ≤ w ∧ w ≤ 799999992 ∧ (∀ k, 0 ≤ k → k < i → w ≤ wk σ k (τ 11 k)) ∧ (0 < i → ∃ k, 0 ≤ k ∧ k < i ∧ w = wk σ k (τ 11 k)) ∧ (i = 0 → w = 799999992)) (fun _ i => (n - i).toNat) ?_ 799999992 0 ⟨by omega, by omega, by omega, by omega, fun k a b => by omega, fun q => by omega, fun _ => rfl⟩
  rintro w i ⟨i1, i2, i3, i4, i5, i6, i7⟩ ih
  refine ok_iload_n 7 rfl rfl rfl (ok_aload_n 8 rfl rfl rfl (ok_getI 9 rfl rfl fl_X12_234 rfl rfl (Or.inl rfl) (ok_icmp_ge 10 41 rfl rfl rfl (fun h16 => ?_) (fun h16 => ?_))))
  · refine ok_iconst 23 rfl rfl (by decide) (ok_ist3 24 rfl rfl rfl ?_)
    obtain ⟨x, x1, x2, x3⟩ := i6 (by omega)
    have hin : i = n := by omega
    have hwm : w ≤ m := by rw [x3]; exact (hcb x x1 (by omega)).2
    clear i6 ih
    refine lpO2 (fun (i : Int) (_ : eS) => [some (vr 0), some (vi r), some (vi w), some (vi i)]) (fun _ ρ => ρ) (fun i ρ => 0 ≤ i ∧ i ≤ n ∧ fr (fun c _ => c = 9) τ ρ ∧ ∀ a j, 0 ≤ a → a < n → 0 ≤ j → j < n → ρ 9 (n * a + j) = wk σ a j - (if a < i ∧ j = τ 11 a then w else 0)) (fun i _ => (n - i).toNat) ?_ 0 τ ⟨by omega, by omega, fr.rf, fun a j y1 y2 y3 y4 => ?_⟩
    rotate_left
    · rw [if_neg (by omega), ← twk]
      unfold wk
      rw [t22]
      omega
    clear h16
    rintro k ρ ⟨k1, k2, k3, k4⟩ ih
    have e22 : ρ 0 22 = n := by rw [k3 0 22 (by omega), t22]
    have e11 : ∀ q, ρ 11 q = τ 11 q := fun q => k3 11 q (by omega)
    refine ok_iload_n 25 rfl rfl rfl (ok_aload_n 26 rfl rfl rfl (ok_getI 27 rfl rfl fl_X12_234 rfl rfl (Or.inl rfl) (ok_icmp_ge 28 79 rfl rfl rfl (fun h48 => ?_) (fun h48 => ?_))))
    · refine ok_iload_n 47 rfl rfl rfl (ok_iret 48 rfl rfl rfl ?_)
      have hkn : k = n := by omega
      have hval : ∀ a j, 0 ≤ a → a < n → 0 ≤ j → j < n → ρ 9 (n * a + j) = wk σ a j - (if j = τ 11 a then w else 0) := fun a j y1 y2 y3 y4 => by
        rw [k4 a j y1 y2 y3 y4]
        by_cases q : j = τ 11 a
        · rw [if_pos q, if_pos ⟨by omega, q⟩]
        · rw [if_neg q, if_neg (fun y => q y.2)]
      have hwk : ∀ a j, 0 ≤ a → a < n → 0 ≤ j → j < n → wk ρ a j = wk σ a j - (if j = τ 11 a then w else 0) := fun a j y1 y2 y3 y4 => by
        unfold wk at hval ⊢
        rw [e22, ← en] at *
        exact hval a j y1 y2 y3 y4
      refine ⟨_, rfl, i3, hwm, fun c q z => by rw [k3 c q (by omega), f1 c q (by omega)], ?_, ?_, ?_⟩
      · rw [← en]
        refine ⟨fun a j y1 y2 y3 y4 => ?_, fun a y1 y2 => ?_, fun j y1 y2 => ?_⟩
        · rw [hwk a j y1 y2 y3 y4]
          have g1 := he.1 a j y1 y2 y3 y4
          split
          · next q => rw [q]; have := i5 a y1 (by omega); omega
          · omega
        · have e1 : sm (fun j => wk ρ a j) n.toNat = sm (fun j => wk σ a j - (if j = τ 11 a then w else 0)) n.toNat := sm_cg (fun j b c => hwk a j y1 y2 b (by omega))
          have hi : 0 ≤ τ 11 a ∧ τ 11 a < n := hp.1 a y1 y2
          rw [e1, sm_sub, sm_one w hi.1 (by omega), he.2.1 a y1 y2]
        · have e1 : sm (fun a => wk ρ a j) n.toNat = sm (fun a => wk σ a j - (if τ 11 a = j then w else 0)) n.toNat := sm_cg (fun a b c => by
            rw [hwk a j b (by omega) y1 y2]
            by_cases q : j = τ 11 a
            · rw [if_pos q, if_pos q.symm]
            · rw [if_neg q, if_neg (fun y => q y.symm)])
          rw [e1, sm_sub, perm_col (by omega) hp w ⟨y1, y2⟩, he.2.2 j y1 y2]
      · unfold np
        rw [e22, ← en]
        have hx : 0 ≤ τ 11 x ∧ τ 11 x < n := hp.1 x x1 (by omega)
        obtain ⟨y1, y2, y3, y4⟩ := ix8 (n := n) (i := x) (j := τ 11 x) ⟨by omega, by omega⟩ ⟨by omega, by omega⟩ hx
        refine sm_less (x := n * x + τ 11 x) (fun q a b => ?_) (by omega) (by omega) ?_
        · have g1 := Int.mul_ediv_add_emod q n
          have g2 := Int.emod_nonneg q (by omega : n ≠ 0)
          have g3 := Int.emod_lt_of_pos q (by omega : 0 < n)
          have g4 : q / n < n := Int.ediv_lt_of_lt_mul (by omega) (by omega)
          have g5 : 0 ≤ q / n := Int.ediv_nonneg a (by omega)
          have g6 := hval (q / n) (q % n) g5 g4 g2 g3
          unfold wk at g6
          rw [← en, g1] at g6
          have g7 : ρ 9 q ≤ σ 9 q := by rw [g6]; split <;> omega
          by_cases z : 0 < ρ 9 q
          · rw [if_pos z, if_pos (by omega)]; exact Int.le_refl _
          · rw [if_neg z]; split <;> omega
        · have g6 := hval x (τ 11 x) x1 (by omega) hx.1 hx.2
          rw [if_pos rfl] at g6
          have g8 := (hcb x x1 (by omega)).1
          rw [if_neg (by omega), if_pos]
          · omega
          · unfold wk at g8
            rw [← en] at g8
            omega
      · rw [← en]
        unfold chB
        simp only [e11]
        exact ⟨hp, hc⟩
    · have hi : 0 ≤ τ 11 k ∧ τ 11 k < n := hp.1 k k1 (by omega)
      have hv := hcb k k1 (by omega)
      have hle := i5 k k1 (by omega)
      obtain ⟨y1, y2, y3, y4⟩ := ix8 (n := n) (i := k) (j := τ 11 k) ⟨by omega, by omega⟩ ⟨by omega, by omega⟩ hi
      have hval := k4 k (τ 11 k) k1 (by omega) hi.1 hi.2
      rw [if_neg (by omega)] at hval
      refine ok_aload_n 29 rfl rfl rfl (ok_getR 30 rfl rfl fl_X12_39 rfl rfl (ok_aload_n 31 rfl rfl rfl (ok_getI 32 rfl rfl fl_X12_234 rfl rfl (Or.inl rfl) (ok_iload_n 33 rfl rfl rfl (ok_imul 34 rfl rfl (by rw [e22]; omega) (ok_aload_n 35 rfl rfl rfl (ok_getR 36 rfl rfl fl_X12_45 rfl rfl (ok_iload_n 37 rfl rfl rfl (ok_iald 38 rfl rfl rfl (by first | omega | (simp [up_if]; omega) | (simp [up_if] at *; omega)) (ok_iadd 39 rfl rfl (by rw [e22, e11]; omega) (ok_dup2 40 rfl rfl ⟨rfl, rfl⟩ (ok_iald 41 rfl rfl rfl (by rw [e22, e11]; omega) (ok_iload_n 42 rfl rfl rfl (ok_isub 43 rfl rfl (by rw [e22, e11]; omega) (ok_iast 44 rfl rfl rfl (by rw [e22, e11]; omega) (ok_inc3 45 rfl rfl rfl (by first | omega | (simp [up_if]; omega) | (simp [up_if] at *; omega)) (ok_goto 46 43 rfl rfl rfl ?_)))))))))))))))))
      rw [e22, e11]
      refine ih (k + 1) _ ⟨by omega, by omega, fr_up k3 rfl, fun a j y1 y2 y3 y4 => ?_⟩ (by omega)
      rw [up_if]
      by_cases q : n * a + j = n * k + τ 11 k
      · obtain ⟨qa, qj⟩ := ix_inj hn ⟨y3, y4⟩ hi q
        rw [if_pos ⟨rfl, q⟩, hval, if_pos ⟨by omega, by rw [qa]; exact qj⟩, qa, qj]
        omega
      · rw [if_neg (fun y => q y.2), k4 a j y1 y2 y3 y4]
        by_cases q2 : a < k ∧ j = τ 11 a
        · rw [if_pos q2, if_pos ⟨by omega, q2.2⟩]
        · rw [if_neg q2, if_neg]
          rintro ⟨y5, y6⟩
          by_cases q3 : a = k
          · exact q (by rw [y6, q3])
          · exact q2 ⟨by omega, y6⟩
  · have hi : 0 ≤ τ 11 i ∧ τ 11 i < n := hp.1 i i1 (by omega)
    have hv := hcb i i1 (by omega)
    refine ok_iload_n 11 rfl rfl rfl (ok_aload_n 12 rfl rfl rfl (ok_iload_n 13 rfl rfl rfl (ok_aload_n 14 rfl rfl rfl (ok_getR 15 rfl rfl fl_X12_45 rfl rfl (ok_iload_n 16 rfl rfl rfl (ok_iald 17 rfl rfl rfl (by first | omega | (simp [up_if]; omega) | (simp [up_if] at *; omega)) (ok_callVI (M' := M_Mo_worked) (as := [_, _]) 18 rfl rfl ml_X12_244 (s_Mo_worked tn (by omega) (by rw [t22]; exact hi)) rfl rfl (Nat.le_of_ble_eq_true rfl) ⟨Nat.le_of_ble_eq_true rfl, Nat.le_of_ble_eq_true rfl⟩ rfl (Nat.le_of_ble_eq_true rfl) (fun σ' z hz => ?_))))))))
    rw [hz.1, hz.2, twk]; clear hz z σ'
    refine ok_mmin 19 rfl rfl ml_X12_271 ⟨Nat.le_of_ble_eq_true rfl, Nat.le_of_ble_eq_true rfl⟩ (ok_ist2 20 rfl rfl rfl (ok_inc3 21 rfl rfl rfl (by first | omega | (simp [up_if]; omega) | (simp [up_if] at *; omega)) (ok_goto 22 11 rfl rfl rfl ?_)))
    refine ih _ (i + 1) ⟨by omega, by omega, by omega, by omega, fun k a b => ?_, fun _ => ?_, fun q => by omega⟩ (by omega)
    · by_cases q : k = i
      · rw [q]; omega
      · have := i5 k a (by omega); omega
    · by_cases q : w ≤ wk σ i (τ 11 i)
      · by_cases q0 : 0 < i
        · obtain ⟨k, a, b, c⟩ := i6 q0
          exact ⟨k, a, by omega, by omega⟩
        · exact ⟨i, i1, by omega, by omega⟩
      · exact ⟨i, i1, by omega, by omega⟩
