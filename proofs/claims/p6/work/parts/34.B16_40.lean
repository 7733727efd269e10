section
theorem Qch_yes {σ σ' : eS} {n l r c z : Int} (hn : 1 ≤ n ∧ n ≤ 8) (h : Qch σ n (opB σ l r c) σ' z) (hc : cpl n (opB σ l r c) n.toNat 0) : fr (fun c _ => c = 10 ∨ c = 11) σ σ' ∧ lexCh n (opB σ l r c) (fun i => σ' 11 i) ∧ chB σ n l (fun i => σ' 11 i) := by
  rcases h with ⟨-, h, -⟩ | ⟨-, -, h1, h2⟩
  · exact absurd hc h
  · obtain ⟨p1, p2⟩ := lexCh_perm h2
    refine ⟨h1, h2, p1, fun i a b => ?_⟩
    have h3 := (lexCh_pc hn.2 h2 i.toNat (by omega)).2.2
    have h4 := (p2 i a b).1
    rw [h3, Int.toNat_of_nonneg a] at h4
    exact h4
theorem cpl_pos {σ : eS} {n m : Int} (hn : 1 ≤ n) (he : EvW n (wk σ) m) (hm : 1 ≤ m) : cpl n (opB σ 1 (-1) (-1)) n.toNat 0 := by
  obtain ⟨f, hf, hp⟩ := birk he (by omega) (by omega)
  exact cpl_of (by omega) hf (fun i a b => ⟨by have := hp i a b; omega, by have := (hf.1 i a b).1; omega⟩)
theorem s_Mo_choose {σ : eS} {r m : Int} (h : nW σ) (hw : wBd σ) (he : EvW (σ 0 22) (wk σ) m) (hm : 1 ≤ m) : MtV shB M_Mo_choose [vr 0, vi r] σ (fun σ' => fr (fun c _ => c = 10 ∨ c = 11) σ σ' ∧ chB σ (σ 0 22) 1 (fun i => σ' 11 i)) := by
  refine Mt.of okM_Mo_choose (Nat.le_of_ble_eq_true rfl) (fun hk hg => ?_)
  obtain ⟨n, en⟩ : ∃ x, x = σ 0 22 := ⟨_, rfl⟩
  have hn : 1 ≤ n ∧ n ≤ 8 := by rw [en]; exact h
  obtain ⟨z1, z2, z3, z4⟩ := bit2 (n := n) (by omega)
  have z4 := z4 hn.1
  obtain ⟨sq1, sq2⟩ := sq8 (n := n) ⟨by omega, by omega⟩
  rw [← en] at he ⊢
  have hwb : ∀ i j, 0 ≤ i → i < n → 0 ≤ j → j < n → 0 ≤ wk σ i j ∧ wk σ i j ≤ 799999992 := fun i j a1 a2 a3 a4 => hw i j a1 (by omega) a3 (by omega)
  have hcp := cpl_pos (σ := σ) hn.1 he hm
  have hc1 : cpl n (fun i j => 1 ≤ wk σ i j) n.toNat 0 := cpl_mono (fun i j _ _ _ _ q => q.1) n.toNat 0 (by omega) hcp
  refine ok_iload_n 0 rfl rfl rfl (ok_if_ne 1 15 rfl rfl rfl (fun h1 => ?_) (fun h1 => ?_))
  · refine ok_iload_n 9 rfl rfl rfl (ok_iconst 10 rfl rfl (by decide) (ok_icmp_ne 11 43 rfl rfl rfl (fun h17 => ?_) (fun h17 => ?_)))
    · refine ok_iload_n 27 rfl rfl rfl (ok_iconst 28 rfl rfl (by decide) (ok_icmp_ne 29 123 rfl rfl rfl (fun h45 => ?_) (fun h45 => ?_)))
      · refine ok_aload_n 75 rfl rfl rfl (ok_iconst 76 rfl rfl (by decide) (ok_callVL (M' := M_Mo_chooseGreatest) (as := [_]) 77 rfl rfl ml_X12_263 (s_Mo_chooseGreatest h hw (by decide) (by rw [← en]; exact hc1)) rfl rfl (Nat.le_of_ble_eq_true rfl) ⟨Nat.le_of_ble_eq_true rfl, Nat.le_of_ble_eq_true rfl⟩ rfl (Nat.le_of_ble_eq_true rfl) (fun τ z hz => ?_)))
        rw [← en] at hz
        refine ok_pop2 78 rfl rfl (ok_vret 79 rfl rfl rfl ?_)
        first | exact ⟨rfl, hy.1, hy.2.2⟩ | exact ⟨rfl, fun c k q => by rw [hy2.1 c k q, q1 c k (by omega)], hy3.1, fun i a b => by have := hy3.2 i a b; have hv3 : 1 ≤ τ 10 0 := hv; omega⟩ | exact ⟨rfl, hz.1, hz.2.2⟩
      · refine ok_iconst 30 rfl rfl (by decide) (ok_ist2 31 rfl rfl rfl (ok_iconst 32 rfl rfl (by decide) (ok_ist3 33 rfl rfl rfl ?_)))
        refine lpO2 (fun b k : Int => [some (vr 0), some (vi r), some (vi b), some (vi k)]) (fun _ _ => σ) (fun b k => 0 ≤ k ∧ k ≤ n * n ∧ -1 ≤ b ∧ b < k ∧ (b = -1 → ∀ q, 0 ≤ q → q < k → σ 9 q ≤ 0) ∧ (0 ≤ b → 0 < σ 9 b)) (fun _ k => (n * n - k).toNat) ?_ (-1) 0 ⟨by omega, by omega, by omega, by omega, fun _ q a b => by omega, fun a => by omega⟩
        rintro b k ⟨i1, i2, i3, i4, i5, i6⟩ ih
        refine ok_iload_n 34 rfl rfl rfl (ok_aload_n 35 rfl rfl rfl (ok_getI 36 rfl rfl fl_X12_234 rfl rfl (Or.inl rfl) (ok_aload_n 37 rfl rfl rfl (ok_getI 38 rfl rfl fl_X12_234 rfl rfl (Or.inl rfl) (ok_imul 39 rfl rfl (by rw [← en]; omega) ?_)))))
        rw [← en]
        refine ok_icmp_ge 40 102 rfl rfl rfl (fun h62 => ?_) (fun h62 => ?_)
        · have hb : 0 ≤ b := by
            rcases (show b = -1 ∨ 0 ≤ b by omega) with y | y
            · exfalso
              obtain ⟨f, hf, hp⟩ := birk he (by omega) (by omega)
              have g1 := hf.1 0 (by omega) (by omega)
              have g2 := hp 0 (by omega) (by omega)
              have g3 := ix8 (n := n) (i := 0) (j := f 0) ⟨by omega, by omega⟩ ⟨by omega, by omega⟩ g1
              unfold wk at g2
              rw [← en] at g2
              have := i5 y (n * 0 + f 0) (by omega) (by omega)
              omega
            · exact y
          have hbp := i6 hb
          have e1 : n * (b / n) + b % n = b := Int.mul_ediv_add_emod b n
          have e2 := Int.emod_nonneg b (by omega : n ≠ 0)
          have e3 := Int.emod_lt_of_pos b (by omega : 0 < n)
          have e4 : b / n < n := Int.ediv_lt_of_lt_mul (by omega) (by omega)
          have e5 : 0 ≤ b / n := Int.ediv_nonneg hb (by omega)
          have hcq : cpl n (opB σ 1 (b / n) (b % n)) n.toNat 0 := by
            obtain ⟨f, hf, hf0, hp⟩ := birk2 (i0 := b / n) (j0 := b % n) he ⟨e5, e4⟩ ⟨e2, e3⟩ (by unfold wk; rw [← en, e1]; exact hbp)
            refine cpl_of (by omega) hf (fun i a c => ⟨by have := hp i a c; omega, fun q => by rw [q]; exact hf0, fun q => ?_⟩)
            rcases (show i < b / n ∨ i = b / n ∨ b / n < i by omega) with y | y | y
            · exact absurd (by rw [q, hf0]) (hf.2 i (b / n) a y e4)
            · exact y
            · exact absurd (by rw [q, hf0]) (hf.2 (b / n) i e5 y c)
          refine ok_aload_n 62 rfl rfl rfl (ok_iconst 63 rfl rfl (by decide) (ok_iload_n 64 rfl rfl rfl (ok_aload_n 65 rfl rfl rfl (ok_getI 66 rfl rfl fl_X12_234 rfl rfl (Or.inl rfl) (ok_idiv 67 rfl rfl (by omega) (by rw [← en]; omega) (ok_iload_n 68 rfl rfl rfl (ok_aload_n 69 rfl rfl rfl (ok_getI 70 rfl rfl fl_X12_234 rfl rfl (Or.inl rfl) (ok_irem 71 rfl rfl (by omega) (by rw [← en]; omega) ?_)))))))))
          rw [← en]
          refine ok_callVI (M' := M_Mo_isChosen) (as := [_, _, _]) 72 rfl rfl ml_X12_260 (s_Mo_isChosen h) rfl rfl (Nat.le_of_ble_eq_true rfl) ⟨Nat.le_of_ble_eq_true rfl, Nat.le_of_ble_eq_true rfl⟩ rfl (Nat.le_of_ble_eq_true rfl) (fun τ z hz => ?_)
          rw [← en] at hz
          have hy := Qch_yes hn hz hcq
          refine ok_pop 73 rfl rfl rfl (ok_goto 74 129 rfl rfl rfl (ok_vret 79 rfl rfl rfl ?_))
          exact ⟨rfl, hy.1, hy.2.2⟩
        · refine ok_aload_n 41 rfl rfl rfl (ok_getR 42 rfl rfl fl_X12_39 rfl rfl (ok_iload_n 43 rfl rfl rfl (ok_iald 44 rfl rfl rfl (by first | omega | (simp [up_if]; omega) | (simp [up_if] at *; omega)) (ok_if_le 45 96 rfl rfl rfl (fun h71 => ?_) (fun h71 => ?_)))))
          · refine ok_inc3 60 rfl rfl rfl (by first | omega | (simp [up_if]; omega) | (simp [up_if] at *; omega)) (ok_goto 61 52 rfl rfl rfl ?_)
            first
              | exact ih k (k + 1) ⟨by omega, by omega, by omega, by omega, fun y => by omega, fun _ => by omega⟩ (by omega)
              | exact ih b (k + 1) ⟨by omega, by omega, by omega, by omega, fun y => lt_ext (i5 y) (by omega), i6⟩ (by omega)
          · refine ok_iload_n 46 rfl rfl rfl (ok_iconst 47 rfl rfl (by decide) (ok_icmp_eq 48 94 rfl rfl rfl (fun h76 => ?_) (fun h76 => ?_)))
            · refine ok_iload_n 58 rfl rfl rfl (ok_ist2 59 rfl rfl rfl (ok_inc3 60 rfl rfl rfl (by first | omega | (simp [up_if]; omega) | (simp [up_if] at *; omega)) (ok_goto 61 52 rfl rfl rfl ?_)))
              first
                | exact ih k (k + 1) ⟨by omega, by omega, by omega, by omega, fun y => by omega, fun _ => by omega⟩ (by omega)
                | exact ih b (k + 1) ⟨by omega, by omega, by omega, by omega, fun y => lt_ext (i5 y) (by omega), i6⟩ (by omega)
            · refine ok_aload_n 49 rfl rfl rfl (ok_getR 50 rfl rfl fl_X12_39 rfl rfl (ok_iload_n 51 rfl rfl rfl (ok_iald 52 rfl rfl rfl (by first | omega | (simp [up_if]; omega) | (simp [up_if] at *; omega)) (ok_aload_n 53 rfl rfl rfl (ok_getR 54 rfl rfl fl_X12_39 rfl rfl (ok_iload_n 55 rfl rfl rfl (ok_iald 56 rfl rfl rfl (by first | omega | (simp [up_if]; omega) | (simp [up_if] at *; omega)) (ok_icmp_ge 57 96 rfl rfl rfl (fun h91 => ?_) (fun h91 => ?_)))))))))
              · refine ok_inc3 60 rfl rfl rfl (by first | omega | (simp [up_if]; omega) | (simp [up_if] at *; omega)) (ok_goto 61 52 rfl rfl rfl ?_)
                first
                  | exact ih k (k + 1) ⟨by omega, by omega, by omega, by omega, fun y => by omega, fun _ => by omega⟩ (by omega)
                  | exact ih b (k + 1) ⟨by omega, by omega, by omega, by omega, fun y => lt_ext (i5 y) (by omega), i6⟩ (by omega)
              · refine ok_iload_n 58 rfl rfl rfl (ok_ist2 59 rfl rfl rfl (ok_inc3 60 rfl rfl rfl (by first | omega | (simp [up_if]; omega) | (simp [up_if] at *; omega)) (ok_goto 61 52 rfl rfl rfl ?_)))
                first
                  | exact ih k (k + 1) ⟨by omega, by omega, by omega, by omega, fun y => by omega, fun _ => by omega⟩ (by omega)
                  | exact ih b (k + 1) ⟨by omega, by omega, by omega, by omega, fun y => lt_ext (i5 y) (by omega), i6⟩ (by omega)
    · refine ok_aload_n 12 rfl rfl rfl (ok_iconst 13 rfl rfl (by decide) (ok_iconst 14 rfl rfl (by decide) (ok_callVV (M' := M_Mo_laysCan) (as := [_, _]) 15 rfl rfl ml_X12_256 (s_Mo_laysCan h hw (by decide) (Or.inl rfl)) rfl rfl (Nat.le_of_ble_eq_true rfl) ⟨Nat.le_of_ble_eq_true rfl, Nat.le_of_ble_eq_true rfl⟩ rfl (Nat.le_of_ble_eq_true rfl) (fun τ hq => ?_))))
      rw [← en] at hq
      obtain ⟨q1, q2, q3⟩ := hq
      rw [if_pos rfl] at q2
      have hv := (dp_ge (sums := 0) (v := fun k => τ 10 k) hn (fun i j a b c d => (hwb i j a b c d).1) (by rw [if_pos rfl]; exact q2) (fun T a b => (q3 T a b).1) n.toNat 0 (by omega) (by omega) (by simp [pc]) hc1).2 rfl (by decide)
      have hv2 : τ 10 0 ≤ 799999992 := by
        rcases (q3 0 (by omega) (by omega)).1.2 with q | ⟨j, a1, a2, a3, a4⟩
        · have q5 : τ 10 0 = -1 := q.1
          omega
        · unfold cmbG at a4
          rw [if_pos rfl] at a4
          have := hwb (pc 0) j (by simp [pc]) (by simp [pc]; omega) a1 a2
          have q5 : τ 10 0 = min (wk σ (pc 0) j) (τ 10 (sB 0 j)) := a4
          clear a4
          omega
      have hcl := dp_le (x := τ 10 0) (v := fun k => τ 10 k) hv hn (fun T a b => (q3 T a b).1) n.toNat 0 (by omega) (by omega) (by simp [pc]) (Int.le_refl _)
      have t22 : τ 0 22 = n := by rw [q1 0 22 (by omega), en]
      have twk : wk τ = wk σ := by funext a b; unfold wk; rw [q1 0 22 (by omega), q1 9 _ (by omega)]
      refine ok_aload_n 16 rfl rfl rfl (ok_aload_n 17 rfl rfl rfl (ok_getR 18 rfl rfl fl_X12_42 rfl rfl (ok_iconst 19 rfl rfl (by decide) (ok_lald 20 rfl rfl rfl (by first | omega | (simp [up_if]; omega) | (simp [up_if] at *; omega)) (ok_l2i 21 rfl rfl (by first | omega | (simp [up_if]; omega) | (simp [up_if] at *; omega)) (ok_iconst 22 rfl rfl (by decide) (ok_iconst 23 rfl rfl (by decide) (ok_callVI (M' := M_Mo_isChosen) (as := [_, _, _]) 24 rfl rfl ml_X12_260 (s_Mo_isChosen (h.fr' (by rw [t22, en]))) rfl rfl (Nat.le_of_ble_eq_true rfl) ⟨Nat.le_of_ble_eq_true rfl, Nat.le_of_ble_eq_true rfl⟩ rfl (Nat.le_of_ble_eq_true rfl) (fun τ2 z hz => ?_)))))))))
      rw [t22] at hz
      have hy2 := Qch_yes hn hz (by unfold opB; rw [twk]; exact cpl_mono (fun i j a _ b _ q => ⟨q, by omega⟩) n.toNat 0 (by omega) hcl)
      have hy3 : chB σ n (τ 10 0) (fun i => τ2 11 i) := by have := hy2.2.2; unfold chB at this; rw [twk] at this; exact this
      refine ok_pop 25 rfl rfl rfl (ok_goto 26 129 rfl rfl rfl (ok_vret 79 rfl rfl rfl ?_))
      first | exact ⟨rfl, hy.1, hy.2.2⟩ | exact ⟨rfl, fun c k q => by rw [hy2.1 c k q, q1 c k (by omega)], hy3.1, fun i a b => by have := hy3.2 i a b; have hv3 : 1 ≤ τ 10 0 := hv; omega⟩ | exact ⟨rfl, hz.1, hz.2.2⟩
  · refine ok_aload_n 2 rfl rfl rfl (ok_iconst 3 rfl rfl (by decide) (ok_iconst 4 rfl rfl (by decide) (ok_iconst 5 rfl rfl (by decide) (ok_callVI (M' := M_Mo_isChosen) (as := [_, _, _]) 6 rfl rfl ml_X12_260 (s_Mo_isChosen h) rfl rfl (Nat.le_of_ble_eq_true rfl) ⟨Nat.le_of_ble_eq_true rfl, Nat.le_of_ble_eq_true rfl⟩ rfl (Nat.le_of_ble_eq_true rfl) (fun τ z hz => ?_)))))
    rw [← en] at hz
    have hy := Qch_yes hn hz hcp
    refine ok_pop 7 rfl rfl rfl (ok_goto 8 129 rfl rfl rfl (ok_vret 79 rfl rfl rfl ?_))
    first | exact ⟨rfl, hy.1, hy.2.2⟩ | exact ⟨rfl, fun c k q => by rw [hy2.1 c k q, q1 c k (by omega)], hy3.1, fun i a b => by have := hy3.2 i a b; have hv3 : 1 ≤ τ 10 0 := hv; omega⟩ | exact ⟨rfl, hz.1, hz.2.2⟩
end
section
theorem ix_inj {n r j r' j' : Int} (hn : 1 ≤ n ∧ n ≤ 8) (hj : 0 ≤ j ∧ j < n) (hj' : 0 ≤ j' ∧ j' < n) (h : n * r + j = n * r' + j') : r = r' ∧ j = j' := by
  have : n = 1 ∨ n = 2 ∨ n = 3 ∨ n = 4 ∨ n = 5 ∨ n = 6 ∨ n = 7 ∨ n = 8 := by omega
  rcases this with rfl | rfl | rfl | rfl | rfl | rfl | rfl | rfl <;> omega
theorem sm_sub (f g : Int → Int) : ∀ n, sm (fun k => f k - g k) n = sm f n - sm g n
  | 0 => rfl
  | n + 1 => by
    have h := sm_sub f g n
    show sm (fun k => f k - g k) n + (f n - g n) = sm f n + f n - (sm g n + g n)
    omega
theorem sm_one {x : Int} (v : Int) : ∀ {n : Nat}, 0 ≤ x → x < n → sm (fun k => if k = x then v else 0) n = v
  | 0, h0, h => by omega
  | n + 1, h0, h => by
    show sm (fun k => if k = x then v else 0) n + (if (n : Int) = x then v else 0) = v
    by_cases q : (n : Int) = x
    · rw [if_pos q]
      have : sm (fun k => if k = x then v else 0) n = sm (fun _ => 0) n := sm_cg (fun k a b => if_neg (by omega))
      have z : ∀ m : Nat, sm (fun _ => 0) m = 0 := fun m => by induction m with
        | zero => rfl
        | succ m ih => show sm (fun _ => 0) m + 0 = 0; omega
      rw [this, z]
      omega
    · rw [if_neg q, sm_one v h0 (by omega)]
      omega
theorem sm_le2 {f g : Int → Int} : ∀ {n : Nat}, (∀ k : Int, 0 ≤ k → k < n → f k ≤ g k) → sm f n ≤ sm g n
  | 0, _ => Int.le_refl _
  | n + 1, h => by
    have h1 := sm_le2 (n := n) (fun k a b => h k a (by omega))
    have h2 := h n (by omega) (by omega)
    show sm f n + f n ≤ sm g n + g n
    omega
theorem sm_less {f g : Int → Int} {x : Int} : ∀ {n : Nat}, (∀ k : Int, 0 ≤ k → k < n → f k ≤ g k) → 0 ≤ x → x < n → f x + 1 ≤ g x → sm f n + 1 ≤ sm g n
  | 0, h, h0, hx, hl => by omega
  | n + 1, h, h0, hx, hl => by
    show sm f n + f n + 1 ≤ sm g n + g n
    have h2 := h n (by omega) (by omega)
    by_cases q : x = n
    · have h1 := sm_le2 (n := n) (fun k a b => h k a (by omega))
      rw [q] at hl
      omega
    · have h1 := sm_less (n := n) (fun k a b => h k a (by omega)) h0 (by omega) hl
      omega
/-- how many numbers of the work are above 0 -/
def np (σ : eS) : Int := sm (fun k => if 0 < σ 9 k then 1 else 0) (σ 0 22 * σ 0 22).toNat
theorem EvW_bd {n m : Int} {w : Int → Int → Int} (h : EvW n w m) {i j : Int} (hi : 0 ≤ i ∧ i < n) (hj : 0 ≤ j ∧ j < n) : w i j ≤ m := by
  have := sm_le (f := fun j => w i j) (n := n.toNat) (fun k a b => h.1 i k hi.1 hi.2 a (by omega)) j hj.1 (by omega)
  rwa [h.2.1 i hi.1 hi.2] at this
/-- the work less a choice -/
def Qpl (σ : eS) (m : Int) (σ' : eS) (z : Int) : Prop := 1 ≤ z ∧ z ≤ m ∧ fr (fun c _ => c = 9 ∨ c = 10 ∨ c = 11) σ σ' ∧ EvW (σ 0 22) (wk σ') (m - z) ∧ np σ' + 1 ≤ np σ ∧ chB σ (σ 0 22) 1 (fun i => σ' 11 i)
theorem s_Mo_peels {σ : eS} {r m : Int} (h : nW σ) (he : EvW (σ 0 22) (wk σ) m) (hm : 1 ≤ m ∧ m ≤ 799999992) : MtI shB M_Mo_peels [vr 0, vi r] σ (Qpl σ m) := by
  refine Mt.of okM_Mo_peels (Nat.le_of_ble_eq_true rfl) (fun hk hg => ?_)
  obtain ⟨n, en⟩ : ∃ x, x = σ 0 22 := ⟨_, rfl⟩
  have hn : 1 ≤ n ∧ n ≤ 8 := by rw [en]; exact h
  obtain ⟨sq1, sq2⟩ := sq8 (n := n) ⟨by omega, by omega⟩
  have hw : wBd σ := fun i j a b c d => ⟨he.1 i j a b c d, Int.le_trans (EvW_bd he ⟨a, b⟩ ⟨c, d⟩) hm.2⟩
  refine ok_aload_n 0 rfl rfl rfl (ok_iload_n 1 rfl rfl rfl (ok_callVV (M' := M_Mo_choose) (as := [_]) 2 rfl rfl ml_X12_267 (s_Mo_choose h hw he hm.1) rfl rfl (Nat.le_of_ble_eq_true rfl) ⟨Nat.le_of_ble_eq_true rfl, Nat.le_of_ble_eq_true rfl⟩ rfl (Nat.le_of_ble_eq_true rfl) (fun τ hq => ?_)))
  rw [← en] at hq he
  obtain ⟨f1, hp, hc⟩ := hq
  have t22 : τ 0 22 = n := by rw [f1 0 22 (by omega), en]
  have tn : nW τ := h.fr' (by rw [t22, en])
  have twk : wk τ = wk σ := by funext a b; unfold wk; rw [f1 0 22 (by omega), f1 9 _ (by omega)]
  have hcb : ∀ i, 0 ≤ i → i < n → 1 ≤ wk σ i (τ 11 i) ∧ wk σ i (τ 11 i) ≤ m := fun i a b => ⟨hc i a b, EvW_bd he ⟨a, b⟩ (hp.1 i a b)⟩
  refine ok_ldcw 3 (799999992) rfl rfl kc_X12_270 (by decide) (ok_ist2 4 rfl rfl rfl (ok_iconst 5 rfl rfl (by decide) (ok_ist3 6 rfl rfl rfl ?_)))
  refine lpO2 (fun w i : Int => [some (vr 0), some (vi r), some (vi w), some (vi i)]) (fun _ _ => τ) (fun w i => 0 ≤ i ∧ i ≤ n ∧ 1 ≤ w ∧ w ≤ 799999992 ∧ (∀ k, 0 ≤ k → k < i → w ≤ wk σ k (τ 11 k)) ∧ (0 < i → ∃ k, 0 ≤ k ∧ k < i ∧ w = wk σ k (τ 11 k)) ∧ (i = 0 → w = 799999992)) (fun _ i => (n - i).toNat) ?_ 799999992 0 ⟨by omega, by omega, by omega, by omega, fun k a b => by omega, fun q => by omega, fun _ => rfl⟩
  rintro w i ⟨i1, i2, i3, i4, i5, i6, i7⟩ ih
  refine ok_iload_n 7 rfl rfl rfl (ok_aload_n 8 rfl rfl rfl (ok_getI 9 rfl rfl fl_X12_234 rfl rfl (Or.inl rfl) (ok_icmp_ge 10 41 rfl rfl rfl (fun h16 => ?_) (fun h16 => ?_))))
  · refine ok_iconst 23 rfl rfl (by decide) (ok_ist3 24 rfl rfl rfl ?_)
    obtain ⟨x, x1, x2, x3⟩ := i6 (by omega)
    have hin : i = n := by omega
    have hwm : w ≤ m := by rw [x3]; exact (hcb x x1 (by omega)).2
    clear i6 ih
    refine lpO2 (fun (i : Int) (_ : eS) => [some (vr 0), some (vi r), some (vi w), some (vi i)]) (fun _ ρ => ρ) (fun i ρ => 0 ≤ i ∧ i ≤ n ∧ fr (fun c _ => c = 9) τ ρ ∧ ∀ a j, 0 ≤ a → a < n → 0 ≤ j → j < n → ρ 9 (n * a + j) = wk σ a j - (if a < i ∧ j = τ 11 a then w else 0)) (fun i _ => (n - i).toNat) ?_ 0 τ ⟨by omega, by omega, fr.rf, fun a j y1 y2 y3 y4 => ?_⟩
    rotate_left
    · rw [if_neg (by omega), ← twk]
      unfold wk
      rw [t22]
      omega
    clear h16
    rintro k ρ ⟨k1, k2, k3, k4⟩ ih
    have e22 : ρ 0 22 = n := by rw [k3 0 22 (by omega), t22]
    have e11 : ∀ q, ρ 11 q = τ 11 q := fun q => k3 11 q (by omega)
    refine ok_iload_n 25 rfl rfl rfl (ok_aload_n 26 rfl rfl rfl (ok_getI 27 rfl rfl fl_X12_234 rfl rfl (Or.inl rfl) (ok_icmp_ge 28 79 rfl rfl rfl (fun h48 => ?_) (fun h48 => ?_))))
    · refine ok_iload_n 47 rfl rfl rfl (ok_iret 48 rfl rfl rfl ?_)
      have hkn : k = n := by omega
      have hval : ∀ a j, 0 ≤ a → a < n → 0 ≤ j → j < n → ρ 9 (n * a + j) = wk σ a j - (if j = τ 11 a then w else 0) := fun a j y1 y2 y3 y4 => by
        rw [k4 a j y1 y2 y3 y4]
        by_cases q : j = τ 11 a
        · rw [if_pos q, if_pos ⟨by omega, q⟩]
        · rw [if_neg q, if_neg (fun y => q y.2)]
      have hwk : ∀ a j, 0 ≤ a → a < n → 0 ≤ j → j < n → wk ρ a j = wk σ a j - (if j = τ 11 a then w else 0) := fun a j y1 y2 y3 y4 => by
        unfold wk at hval ⊢
        rw [e22, ← en] at *
        exact hval a j y1 y2 y3 y4
      refine ⟨_, rfl, i3, hwm, fun c q z => by rw [k3 c q (by omega), f1 c q (by omega)], ?_, ?_, ?_⟩
      · rw [← en]
        refine ⟨fun a j y1 y2 y3 y4 => ?_, fun a y1 y2 => ?_, fun j y1 y2 => ?_⟩
        · rw [hwk a j y1 y2 y3 y4]
          have g1 := he.1 a j y1 y2 y3 y4
          split
          · next q => rw [q]; have := i5 a y1 (by omega); omega
          · omega
        · have e1 : sm (fun j => wk ρ a j) n.toNat = sm (fun j => wk σ a j - (if j = τ 11 a then w else 0)) n.toNat := sm_cg (fun j b c => hwk a j y1 y2 b (by omega))
          have hi : 0 ≤ τ 11 a ∧ τ 11 a < n := hp.1 a y1 y2
          rw [e1, sm_sub, sm_one w hi.1 (by omega), he.2.1 a y1 y2]
        · have e1 : sm (fun a => wk ρ a j) n.toNat = sm (fun a => wk σ a j - (if τ 11 a = j then w else 0)) n.toNat := sm_cg (fun a b c => by
            rw [hwk a j b (by omega) y1 y2]
            by_cases q : j = τ 11 a
            · rw [if_pos q, if_pos q.symm]
            · rw [if_neg q, if_neg (fun y => q y.symm)])
          rw [e1, sm_sub, perm_col (by omega) hp w ⟨y1, y2⟩, he.2.2 j y1 y2]
      · unfold np
        rw [e22, ← en]
        have hx : 0 ≤ τ 11 x ∧ τ 11 x < n := hp.1 x x1 (by omega)
        obtain ⟨y1, y2, y3, y4⟩ := ix8 (n := n) (i := x) (j := τ 11 x) ⟨by omega, by omega⟩ ⟨by omega, by omega⟩ hx
        refine sm_less (x := n * x + τ 11 x) (fun q a b => ?_) (by omega) (by omega) ?_
        · have g1 := Int.mul_ediv_add_emod q n
          have g2 := Int.emod_nonneg q (by omega : n ≠ 0)
          have g3 := Int.emod_lt_of_pos q (by omega : 0 < n)
          have g4 : q / n < n := Int.ediv_lt_of_lt_mul (by omega) (by omega)
          have g5 : 0 ≤ q / n := Int.ediv_nonneg a (by omega)
          have g6 := hval (q / n) (q % n) g5 g4 g2 g3
          unfold wk at g6
          rw [← en, g1] at g6
          have g7 : ρ 9 q ≤ σ 9 q := by rw [g6]; split <;> omega
          by_cases z : 0 < ρ 9 q
          · rw [if_pos z, if_pos (by omega)]; exact Int.le_refl _
          · rw [if_neg z]; split <;> omega
        · have g6 := hval x (τ 11 x) x1 (by omega) hx.1 hx.2
          rw [if_pos rfl] at g6
          have g8 := (hcb x x1 (by omega)).1
          rw [if_neg (by omega), if_pos]
          · omega
          · unfold wk at g8
            rw [← en] at g8
            omega
      · rw [← en]
        unfold chB
        simp only [e11]
        exact ⟨hp, hc⟩
    · have hi : 0 ≤ τ 11 k ∧ τ 11 k < n := hp.1 k k1 (by omega)
      have hv := hcb k k1 (by omega)
      have hle := i5 k k1 (by omega)
      obtain ⟨y1, y2, y3, y4⟩ := ix8 (n := n) (i := k) (j := τ 11 k) ⟨by omega, by omega⟩ ⟨by omega, by omega⟩ hi
      have hval := k4 k (τ 11 k) k1 (by omega) hi.1 hi.2
      rw [if_neg (by omega)] at hval
      refine ok_aload_n 29 rfl rfl rfl (ok_getR 30 rfl rfl fl_X12_39 rfl rfl (ok_aload_n 31 rfl rfl rfl (ok_getI 32 rfl rfl fl_X12_234 rfl rfl (Or.inl rfl) (ok_iload_n 33 rfl rfl rfl (ok_imul 34 rfl rfl (by rw [e22]; omega) (ok_aload_n 35 rfl rfl rfl (ok_getR 36 rfl rfl fl_X12_45 rfl rfl (ok_iload_n 37 rfl rfl rfl (ok_iald 38 rfl rfl rfl (by first | omega | (simp [up_if]; omega) | (simp [up_if] at *; omega)) (ok_iadd 39 rfl rfl (by rw [e22, e11]; omega) (ok_dup2 40 rfl rfl ⟨rfl, rfl⟩ (ok_iald 41 rfl rfl rfl (by rw [e22, e11]; omega) (ok_iload_n 42 rfl rfl rfl (ok_isub 43 rfl rfl (by rw [e22, e11]; omega) (ok_iast 44 rfl rfl rfl (by rw [e22, e11]; omega) (ok_inc3 45 rfl rfl rfl (by first | omega | (simp [up_if]; omega) | (simp [up_if] at *; omega)) (ok_goto 46 43 rfl rfl rfl ?_)))))))))))))))))
      rw [e22, e11]
      refine ih (k + 1) _ ⟨by omega, by omega, fr_up k3 rfl, fun a j y1 y2 y3 y4 => ?_⟩ (by omega)
      rw [up_if]
      by_cases q : n * a + j = n * k + τ 11 k
      · obtain ⟨qa, qj⟩ := ix_inj hn ⟨y3, y4⟩ hi q
        rw [if_pos ⟨rfl, q⟩, hval, if_pos ⟨by omega, by rw [qa]; exact qj⟩, qa, qj]
        omega
      · rw [if_neg (fun y => q y.2), k4 a j y1 y2 y3 y4]
        by_cases q2 : a < k ∧ j = τ 11 a
        · rw [if_pos q2, if_pos ⟨by omega, q2.2⟩]
        · rw [if_neg q2, if_neg]
          rintro ⟨y5, y6⟩
          by_cases q3 : a = k
          · exact q (by rw [y6, q3])
          · exact q2 ⟨by omega, y6⟩
  · have hi : 0 ≤ τ 11 i ∧ τ 11 i < n := hp.1 i i1 (by omega)
    have hv := hcb i i1 (by omega)
    refine ok_iload_n 11 rfl rfl rfl (ok_aload_n 12 rfl rfl rfl (ok_iload_n 13 rfl rfl rfl (ok_aload_n 14 rfl rfl rfl (ok_getR 15 rfl rfl fl_X12_45 rfl rfl (ok_iload_n 16 rfl rfl rfl (ok_iald 17 rfl rfl rfl (by first | omega | (simp [up_if]; omega) | (simp [up_if] at *; omega)) (ok_callVI (M' := M_Mo_worked) (as := [_, _]) 18 rfl rfl ml_X12_244 (s_Mo_worked tn (by omega) (by rw [t22]; exact hi)) rfl rfl (Nat.le_of_ble_eq_true rfl) ⟨Nat.le_of_ble_eq_true rfl, Nat.le_of_ble_eq_true rfl⟩ rfl (Nat.le_of_ble_eq_true rfl) (fun σ' z hz => ?_))))))))
    rw [hz.1, hz.2, twk]; clear hz z σ'
    refine ok_mmin 19 rfl rfl ml_X12_271 ⟨Nat.le_of_ble_eq_true rfl, Nat.le_of_ble_eq_true rfl⟩ (ok_ist2 20 rfl rfl rfl (ok_inc3 21 rfl rfl rfl (by first | omega | (simp [up_if]; omega) | (simp [up_if] at *; omega)) (ok_goto 22 11 rfl rfl rfl ?_)))
    refine ih _ (i + 1) ⟨by omega, by omega, by omega, by omega, fun k a b => ?_, fun _ => ?_, fun q => by omega⟩ (by omega)
    · by_cases q : k = i
      · rw [q]; omega
      · have := i5 k a (by omega); omega
    · by_cases q : w ≤ wk σ i (τ 11 i)
      · by_cases q0 : 0 < i
        · obtain ⟨k, a, b, c⟩ := i6 q0
          exact ⟨k, a, by omega, by omega⟩
        · exact ⟨i, i1, by omega, by omega⟩
      · exact ⟨i, i1, by omega, by omega⟩
end
section
/-- what is kept -/
def wtK (σ : eS) (p m : Int) : Prop := (∀ q, 0 ≤ q → q < p → 1 ≤ σ 12 q) ∧ sm (fun q => σ 12 q) p.toNat = m
def colK (σ : eS) (p n : Int) : Prop := ∀ q i, 0 ≤ q → q < p → 0 ≤ i → i < n → 0 ≤ σ 13 (8 * q + i) ∧ σ 13 (8 * q + i) < n
abbrev rgK : Nat → Int → Prop := fun c k => (c = 0 ∧ 27 ≤ k ∧ k ≤ 30) ∨ c = 9 ∨ c = 10 ∨ c = 11 ∨ c = 12 ∨ c = 13
def QK (σ : eS) (kind m : Int) (σ' : eS) (z : Int) : Prop := fr rgK σ σ' ∧ z = σ' 0 27 ∧ 1 ≤ z ∧ z ≤ 64 ∧ σ' 0 28 = σ 0 22 ∧ σ' 0 29 = m ∧ σ' 0 30 = kind ∧ wtK σ' z m ∧ colK σ' z (σ 0 22)
theorem np_bd (σ : eS) (h : nW σ) : 0 ≤ np σ ∧ np σ ≤ 64 := by
  have hn : 1 ≤ σ 0 22 ∧ σ 0 22 ≤ 8 := h
  obtain ⟨q1, q2⟩ := sq8 (n := σ 0 22) ⟨by omega, by omega⟩
  have := sm_bd (f := fun k => if 0 < σ 9 k then 1 else 0) (B := 1) (by decide) (n := (σ 0 22 * σ 0 22).toNat) (fun k a b => by split <;> omega)
  unfold np
  exact ⟨this.1, by omega⟩
theorem np_pos {σ : eS} {k : Int} (h0 : 0 ≤ k) (h1 : k < σ 0 22 * σ 0 22) (h2 : 0 < σ 9 k) : 1 ≤ np σ := by
  have := sm_le (f := fun k => if 0 < σ 9 k then 1 else 0) (n := (σ 0 22 * σ 0 22).toNat) (fun k a b => by split <;> omega) k h0 (by omega)
  rw [if_pos h2] at this
  exact this
theorem s_Mo_keepsAll {σ : eS} {r kind m : Int} (h : nW σ) (he : EvW (σ 0 22) (wk σ) m) (hm : 1 ≤ m ∧ m ≤ 799999992) : MtI shB M_Mo_keepsAll [vr 0, vi r, vi kind, vi m] σ (QK σ kind m) := by
  refine Mt.of okM_Mo_keepsAll (Nat.le_of_ble_eq_true rfl) (fun hk hg => ?_)
  obtain ⟨n, en⟩ : ∃ x, x = σ 0 22 := ⟨_, rfl⟩
  have hn : 1 ≤ n ∧ n ≤ 8 := by rw [en]; exact h
  obtain ⟨sq1, sq2⟩ := sq8 (n := n) ⟨by omega, by omega⟩
  have hnp := np_bd σ h
  refine ok_aload_n 0 rfl rfl rfl (ok_iconst 1 rfl rfl (by decide) (ok_putI 2 rfl rfl fl_X12_273 rfl rfl rfl rfl (ok_aload_n 3 rfl rfl rfl (ok_aload_n 4 rfl rfl rfl (ok_getI 5 rfl rfl fl_X12_234 rfl rfl (Or.inl rfl) (ok_putI 6 rfl rfl fl_X12_276 rfl rfl rfl rfl (ok_aload_n 7 rfl rfl rfl (ok_iload_n 8 rfl rfl rfl (ok_putI 9 rfl rfl fl_X12_279 rfl rfl rfl rfl (ok_aload_n 10 rfl rfl rfl (ok_iload_n 11 rfl rfl rfl (ok_putI 12 rfl rfl fl_X12_282 rfl rfl rfl rfl ?_))))))))))))
  rw [up_nk _ _ _ _ (by decide)]
  refine lpO2 (fun (_ : Int) (_ : eS) => [some (vr 0), some (vi r), some (vi kind), some (vi m), none]) (fun _ ρ => ρ) (fun x ρ => fr rgK σ ρ ∧ 0 ≤ x ∧ x ≤ m ∧ EvW n (wk ρ) x ∧ 0 ≤ ρ 0 27 ∧ ρ 0 27 + np ρ ≤ 64 ∧ ρ 0 28 = n ∧ ρ 0 29 = m ∧ ρ 0 30 = kind ∧ wtK ρ (ρ 0 27) (m - x) ∧ colK ρ (ρ 0 27) n) (fun _ ρ => (64 - ρ 0 27).toNat) ?_ m _ ⟨fr_up (fr_up (fr_up (fr_up fr.rf (by simp [rgK])) (by simp [rgK])) (by simp [rgK])) (by simp [rgK]), by omega, by omega, ?_, by simp [up_if], ?_, by simp [up_if, en], by simp [up_if], by simp [up_if], ?_, ?_⟩
  rotate_left
  · have e : wk (up (up (up (up σ 0 27 0) 0 28 (σ 0 22)) 0 29 m) 0 30 kind) = wk σ := by funext a b; unfold wk; simp [up_if]
    rw [e, en]; exact he
  · have e : np (up (up (up (up σ 0 27 0) 0 28 (σ 0 22)) 0 29 m) 0 30 kind) = np σ := by unfold np; simp [up_if]
    rw [e]; simp [up_if]; omega
  · refine ⟨fun q a b => ?_, ?_⟩
    · simp [up_if] at b; omega
    · simp [up_if, sm]
  · intro q i a b
    simp [up_if] at b; omega
  rintro x ρ ⟨i1, i2, i3, i4, i5, i6, i7, i8, i9, iA, iB⟩ ih
  have e22 : ρ 0 22 = n := by rw [i1 0 22 (by simp only [rgK]; omega), en]
  have rn : nW ρ := h.fr' (by rw [e22, en])
  have rnp := np_bd ρ rn
  refine ok_aload_n 13 rfl rfl rfl (ok_callVI (M' := M_Mo_isLeft) (as := []) 14 rfl rfl ml_X12_285 (s_Mo_isLeft rn) rfl rfl (Nat.le_of_ble_eq_true rfl) ⟨Nat.le_of_ble_eq_true rfl, Nat.le_of_ble_eq_true rfl⟩ rfl (Nat.le_of_ble_eq_true rfl) (fun σ' z hz => ?_))
  obtain ⟨hs_, hz⟩ := hz
  rw [hs_]; clear hs_ σ'
  rw [e22] at hz
  refine ok_if_eq 15 97 rfl rfl rfl (fun h27 => ?_) (fun h27 => ?_)
  · refine ok_aload_n 52 rfl rfl rfl (ok_getI 53 rfl rfl fl_X12_273 rfl rfl (Or.inl rfl) (ok_iret 54 rfl rfl rfl ?_))
    have hall : ∀ k, 0 ≤ k → k < n * n → ρ 9 k ≤ 0 := by
      rcases hz with q | q
      · omega
      · exact q.2
    have hx0 : x = 0 := by
      rw [← i4.2.1 0 (by omega) (by omega)]
      have := sm_bd (f := fun j => wk ρ 0 j) (B := 0) (by decide) (n := n.toNat) (fun j a b => by
        have g := ix8 (n := n) (i := 0) (j := j) ⟨by omega, by omega⟩ ⟨by omega, by omega⟩ ⟨a, by omega⟩
        have g2 := i4.1 0 j (by omega) (by omega) a (by omega)
        have g3 := hall (n * 0 + j) (by omega) (by omega)
        unfold wk at g2 ⊢
        rw [e22] at g2 ⊢
        exact ⟨g2, g3⟩)
      omega
    have hp1 : 1 ≤ ρ 0 27 := by
      rcases (show ρ 0 27 = 0 ∨ 1 ≤ ρ 0 27 by omega) with q | q
      · have := iA.2
        rw [q] at this
        have : (0 : Int) = m - x := this
        omega
      · exact q
    exact ⟨_, rfl, i1, rfl, hp1, by omega, by rw [i7, en], i8, i9, by have := iA; rwa [hx0, Int.sub_zero] at this, by rw [← en]; exact iB⟩
  · have hex : ∃ k, 0 ≤ k ∧ k < n * n ∧ 0 < ρ 9 k := by
      rcases hz with q | q
      · exact q.2
      · omega
    have hnp1 : 1 ≤ np ρ := by
      obtain ⟨k, a, b, c⟩ := hex
      exact np_pos a (by rw [e22]; exact b) c
    have hx1 : 1 ≤ x := by
      obtain ⟨k, a, b, c⟩ := hex
      have g1 := Int.mul_ediv_add_emod k n
      have g2 := Int.emod_nonneg k (by omega : n ≠ 0)
      have g3 := Int.emod_lt_of_pos k (by omega : 0 < n)
      have g4 : k / n < n := Int.ediv_lt_of_lt_mul (by omega) (by omega)
      have g5 : 0 ≤ k / n := Int.ediv_nonneg a (by omega)
      have g6 := EvW_bd i4 ⟨g5, g4⟩ ⟨g2, g3⟩
      unfold wk at g6
      rw [e22, g1] at g6
      omega
    clear hex hz
    refine ok_aload_n 16 rfl rfl rfl (ok_getR 17 rfl rfl fl_X12_48 rfl rfl (ok_aload_n 18 rfl rfl rfl (ok_getI 19 rfl rfl fl_X12_273 rfl rfl (Or.inl rfl) (ok_aload_n 20 rfl rfl rfl (ok_iload_n 21 rfl rfl rfl (ok_callVI (M' := M_Mo_peels) (as := [_]) 22 rfl rfl ml_X12_288 (s_Mo_peels rn (by rw [e22]; exact i4) ⟨hx1, by omega⟩) rfl rfl (Nat.le_of_ble_eq_true rfl) ⟨Nat.le_of_ble_eq_true rfl, Nat.le_of_ble_eq_true rfl⟩ rfl (Nat.le_of_ble_eq_true rfl) (fun τ z hz => ?_)))))))
    obtain ⟨z1, z2, z3, z4, z5, z6, z7⟩ := hz
    rw [e22] at z4 z6 z7
    have t : ∀ k, τ 0 k = ρ 0 k := fun k => z3 0 k (by omega)
    have t12 : ∀ k, τ 12 k = ρ 12 k := fun k => z3 12 k (by omega)
    have t13 : ∀ k, τ 13 k = ρ 13 k := fun k => z3 13 k (by omega)
    refine ok_iast 23 rfl rfl rfl (by first | omega | (simp [up_if]; omega) | (simp [up_if] at *; omega)) (ok_iconst 24 rfl rfl (by decide) (ok_ist4 25 rfl rfl rfl ?_))
    refine lpO2 (fun (i : Int) (_ : eS) => [some (vr 0), some (vi r), some (vi kind), some (vi m), some (vi i)]) (fun _ υ => υ) (fun i υ => 0 ≤ i ∧ i ≤ n ∧ fr (fun c _ => c = 13) (up τ 12 (ρ 0 27) z) υ ∧ (∀ q a, 0 ≤ q → q < ρ 0 27 → 0 ≤ a → a < n → υ 13 (8 * q + a) = ρ 13 (8 * q + a)) ∧ ∀ a, 0 ≤ a → a < i → 0 ≤ υ 13 (8 * ρ 0 27 + a) ∧ υ 13 (8 * ρ 0 27 + a) < n) (fun i _ => (n - i).toNat) ?_ 0 _ ⟨by omega, by omega, fr.rf, fun q a y1 y2 y3 y4 => by rw [up_ne _ _ _ _ (by decide), t13], fun a b c => by omega⟩
    rintro i υ ⟨k1, k2, k3, k4, k5⟩ ih2
    have v0 : ∀ k, υ 0 k = ρ 0 k := fun k => by rw [k3 0 k (by omega), up_ne _ _ _ _ (by decide), t]
    have v11 : ∀ k, υ 11 k = τ 11 k := fun k => by rw [k3 11 k (by omega), up_ne _ _ _ _ (by decide)]
    have v27 := v0 27
    have v22 := v0 22
    refine ok_iload 26 rfl rfl rfl (ok_aload_n 27 rfl rfl rfl (ok_getI 28 rfl rfl fl_X12_234 rfl rfl (Or.inl rfl) (ok_icmp_ge 29 84 rfl rfl rfl (fun h53 => ?_) (fun h53 => ?_))))
    · refine ok_aload_n 45 rfl rfl rfl (ok_dup 46 rfl rfl rfl (ok_getI 47 rfl rfl fl_X12_273 rfl rfl (Or.inl rfl) (ok_iconst 48 rfl rfl (by decide) (ok_iadd 49 rfl rfl (by first | omega | (simp [up_if]; omega) | (simp [up_if] at *; omega)) (ok_putI 50 rfl rfl fl_X12_273 rfl rfl rfl rfl (ok_goto 51 23 rfl rfl rfl ?_))))))
      rw [v27]
      have w12 : ∀ k, up υ 0 27 (ρ 0 27 + 1) 12 k = if k = ρ 0 27 then z else ρ 12 k := fun k => by
        rw [up_ne _ _ _ _ (by decide), k3 12 k (by omega), up_if]
        by_cases q : k = ρ 0 27
        · rw [if_pos ⟨rfl, q⟩, if_pos q]
        · rw [if_neg (fun y => q y.2), if_neg q, t12]
      have w13 : ∀ k, up υ 0 27 (ρ 0 27 + 1) 13 k = υ 13 k := fun k => up_ne _ _ _ _ (by decide)
      have w9 : ∀ k, up υ 0 27 (ρ 0 27 + 1) 9 k = τ 9 k := fun k => by rw [up_ne _ _ _ _ (by decide), k3 9 k (by omega), up_ne _ _ _ _ (by decide)]
      have wwk : wk (up υ 0 27 (ρ 0 27 + 1)) = wk τ := by
        funext a b
        unfold wk
        rw [w9, up_nk _ _ _ _ (show (22 : Int) ≠ 27 by decide), v22, t]
      have wnp : np (up υ 0 27 (ρ 0 27 + 1)) = np τ := by
        unfold np
        simp only [w9]
        rw [up_nk _ _ _ _ (by decide), v22, t]
      have w27 : up υ 0 27 (ρ 0 27 + 1) 0 27 = ρ 0 27 + 1 := up_same _ _ _ _
      refine ok_fg [some (vr 0), some (vi r), some (vi kind), some (vi m), none] ⟨rfl, rfl, rfl, rfl, trivial⟩ (ih (x - z) _ ⟨fr_up (i1.tr (fun c k q => by
        simp only [rgK] at q
        rw [k3 c k (by omega), up_ne _ _ _ _ (by omega), z3 c k (by omega)])) (by simp [rgK]), by omega, by omega, by rw [wwk]; exact z4, by rw [w27]; omega, by rw [w27, wnp]; omega, by rw [up_nk _ _ _ _ (by decide), v0]; exact i7, by rw [up_nk _ _ _ _ (by decide), v0]; exact i8, by rw [up_nk _ _ _ _ (by decide), v0]; exact i9, ?_, ?_⟩ (by rw [w27]; omega))
      · rw [w27]
        refine ⟨fun q a b => ?_, ?_⟩
        · rw [w12]
          split
          · exact z1
          · exact iA.1 q a (by omega)
        · rw [sm_s _ i5, w12, if_pos rfl]
          have e : sm (fun q => up υ 0 27 (ρ 0 27 + 1) 12 q) (ρ 0 27).toNat = sm (fun q => ρ 12 q) (ρ 0 27).toNat := sm_cg (fun k a b => by rw [w12, if_neg (by omega)])
          rw [e, iA.2]
          omega
      · rw [w27]
        intro q a y1 y2 y3 y4
        rw [w13]
        by_cases hq : q = ρ 0 27
        · rw [hq]; exact k5 a y3 (by omega)
        · rw [k4 q a y1 (by omega) y3 y4]; exact iB q a y1 (by omega) y3 y4
    · have hch : 0 ≤ τ 11 i ∧ τ 11 i < n := z6.1 i k1 (by omega)
      refine ok_aload_n 30 rfl rfl rfl (ok_getR 31 rfl rfl fl_X12_51 rfl rfl (ok_bipush 32 rfl rfl (by decide) (by decide) (ok_aload_n 33 rfl rfl rfl (ok_getI 34 rfl rfl fl_X12_273 rfl rfl (Or.inl rfl) (ok_imul 35 rfl rfl (by first | omega | (simp [up_if]; omega) | (simp [up_if] at *; omega)) (ok_iload 36 rfl rfl rfl (ok_iadd 37 rfl rfl (by first | omega | (simp [up_if]; omega) | (simp [up_if] at *; omega)) (ok_aload_n 38 rfl rfl rfl (ok_getR 39 rfl rfl fl_X12_45 rfl rfl (ok_iload 40 rfl rfl rfl (ok_iald 41 rfl rfl rfl (by first | omega | (simp [up_if]; omega) | (simp [up_if] at *; omega)) (ok_iast 42 rfl rfl rfl (by first | omega | (simp [up_if]; omega) | (simp [up_if] at *; omega)) (ok_inc4 43 rfl rfl rfl (by first | omega | (simp [up_if]; omega) | (simp [up_if] at *; omega)) (ok_goto 44 47 rfl rfl rfl ?_))))))))))))))
      rw [v11, v27]
      refine ih2 (i + 1) _ ⟨by omega, by omega, fr_up k3 rfl, fun q a y1 y2 y3 y4 => ?_, fun a b c => ?_⟩ (by omega)
      · rw [up_nk _ _ _ _ (by omega)]; exact k4 q a y1 y2 y3 y4
      · rw [up_if]
        by_cases q : a = i
        · rw [if_pos ⟨rfl, by rw [q]⟩]; exact hch
        · rw [if_neg (by omega)]; exact k5 a b (by omega)
end
section
theorem s_Mo_isRule {σ : eS} {r : Int} : MtI shB M_Mo_isRule [vi r] σ (fun σ' z => σ' = σ ∧ ((z = 1 ∧ 0 ≤ r ∧ r ≤ 3) ∨ (z = 0 ∧ ¬ (0 ≤ r ∧ r ≤ 3)))) := by
  refine Mt.of okM_Mo_isRule (Nat.le_of_ble_eq_true rfl) (fun hk hg => ?_)
  refine ok_iload_n 0 rfl rfl rfl (ok_i2l 1 rfl rfl (ok_lconst (w := 0) 2 rfl rfl rfl (by decide) (ok_ldc2 3 (3) rfl rfl kc_X12_97 (by decide) (ok_callSI (M' := M_Mo_isIn) (as := [_, _, _]) 4 rfl rfl ml_X12_99 (s_Mo_isIn_r) ⟨Nat.le_of_ble_eq_true rfl, Nat.le_of_ble_eq_true rfl⟩ rfl (Nat.le_of_ble_eq_true rfl) (fun σ' z hz => ?_)))))
  obtain ⟨hs_, hz⟩ := hz
  rw [hs_]; clear hs_ σ'
  refine ok_zret 5 rfl rfl rfl (by omega) ?_
  exact ⟨_, rfl, rfl, hz⟩
def iK (σ : eS) : Prop := 0 ≤ σ 0 27 ∧ σ 0 27 ≤ 64 ∧ 0 ≤ σ 0 28 ∧ σ 0 28 ≤ 8 ∧ 0 ≤ σ 0 29 ∧ σ 0 29 ≤ 799999992 ∧ wtK σ (σ 0 27) (σ 0 29) ∧ colK σ (σ 0 27) (σ 0 28) ∧ (σ 0 30 = 2 → 1 ≤ σ 0 27 ∧ 1 ≤ σ 0 31 ∧ σ 0 31 ≤ 4 ∧ σ 0 28 = 2 * σ 0 31)
theorem s_Mo_isPartThere {σ : eS} {k : Int} (h : iK σ) : MtI shB M_Mo_isPartThere [vr 0, vi k] σ (fun σ' z => σ' = σ ∧ ((z = 1 ∧ 0 ≤ k ∧ k < σ 0 27) ∨ (z = 0 ∧ ¬ (0 ≤ k ∧ k < σ 0 27)))) := by
  refine Mt.of okM_Mo_isPartThere (Nat.le_of_ble_eq_true rfl) (fun hk hg => ?_)
  have := h.1
  have := h.2.1
  refine ok_iload_n 0 rfl rfl rfl (ok_i2l 1 rfl rfl (ok_lconst (w := 0) 2 rfl rfl rfl (by decide) (ok_aload_n 3 rfl rfl rfl (ok_getI 4 rfl rfl fl_X12_273 rfl rfl (Or.inl rfl) (ok_iconst 5 rfl rfl (by decide) (ok_isub 6 rfl rfl (by first | omega | (simp [up_if]; omega) | (simp [up_if] at *; omega)) (ok_i2l 7 rfl rfl (ok_callSI (M' := M_Mo_isIn) (as := [_, _, _]) 8 rfl rfl ml_X12_99 (s_Mo_isIn_r) ⟨Nat.le_of_ble_eq_true rfl, Nat.le_of_ble_eq_true rfl⟩ rfl (Nat.le_of_ble_eq_true rfl) (fun σ' z hz => ?_)))))))))
  obtain ⟨hs_, hz⟩ := hz
  rw [hs_]; clear hs_ σ'
  refine ok_zret 9 rfl rfl rfl (by omega) ?_
  exact ⟨_, rfl, rfl, by omega⟩
theorem s_Mo_isKeptRow {σ : eS} {k : Int} (h : iK σ) : MtI shB M_Mo_isKeptRow [vr 0, vi k] σ (fun σ' z => σ' = σ ∧ ((z = 1 ∧ 0 ≤ k ∧ k < σ 0 28) ∨ (z = 0 ∧ ¬ (0 ≤ k ∧ k < σ 0 28)))) := by
  refine Mt.of okM_Mo_isKeptRow (Nat.le_of_ble_eq_true rfl) (fun hk hg => ?_)
  have := h.2.2.1
  have := h.2.2.2.1
  refine ok_iload_n 0 rfl rfl rfl (ok_i2l 1 rfl rfl (ok_lconst (w := 0) 2 rfl rfl rfl (by decide) (ok_aload_n 3 rfl rfl rfl (ok_getI 4 rfl rfl fl_X12_276 rfl rfl (Or.inl rfl) (ok_iconst 5 rfl rfl (by decide) (ok_isub 6 rfl rfl (by first | omega | (simp [up_if]; omega) | (simp [up_if] at *; omega)) (ok_i2l 7 rfl rfl (ok_callSI (M' := M_Mo_isIn) (as := [_, _, _]) 8 rfl rfl ml_X12_99 (s_Mo_isIn_r) ⟨Nat.le_of_ble_eq_true rfl, Nat.le_of_ble_eq_true rfl⟩ rfl (Nat.le_of_ble_eq_true rfl) (fun σ' z hz => ?_)))))))))
  obtain ⟨hs_, hz⟩ := hz
  rw [hs_]; clear hs_ σ'
  refine ok_zret 9 rfl rfl rfl (by omega) ?_
  exact ⟨_, rfl, rfl, by omega⟩
theorem s_Mo_part {σ : eS} {k r : Int} (h : iK σ) : MtI shB M_Mo_part [vr 0, vi k, vi r] σ (fun σ' z => σ' = σ ∧ ((z = σ 13 (8 * k + r) ∧ 0 ≤ k ∧ k < σ 0 27 ∧ 0 ≤ r ∧ r < σ 0 28) ∨ (z = -1 ∧ ¬ (0 ≤ k ∧ k < σ 0 27 ∧ 0 ≤ r ∧ r < σ 0 28)))) := by
  refine Mt.of okM_Mo_part (Nat.le_of_ble_eq_true rfl) (fun hk hg => ?_)
  obtain ⟨h1, h2, h3, h4, -⟩ := id h
  refine ok_aload_n 0 rfl rfl rfl (ok_iload_n 1 rfl rfl rfl (ok_callVI (M' := M_Mo_isPartThere) (as := [_]) 2 rfl rfl ml_X12_300 (s_Mo_isPartThere h) rfl rfl (Nat.le_of_ble_eq_true rfl) ⟨Nat.le_of_ble_eq_true rfl, Nat.le_of_ble_eq_true rfl⟩ rfl (Nat.le_of_ble_eq_true rfl) (fun σ' z1 a1 => ?_)))
  obtain ⟨hs_, a1⟩ := a1
  rw [hs_]; clear hs_ σ'
  refine ok_if_eq 3 30 rfl rfl rfl (fun h5 => ?_) (fun h5 => ?_)
  · refine ok_iconst 17 rfl rfl (by decide) (ok_iret 18 rfl rfl rfl ?_)
    refine ⟨_, rfl, rfl, ?_⟩
    first | exact Or.inl ⟨rfl, by omega, by omega, by omega, by omega⟩ | exact Or.inr ⟨rfl, by omega⟩
  · refine ok_aload_n 4 rfl rfl rfl (ok_iload_n 5 rfl rfl rfl (ok_callVI (M' := M_Mo_isKeptRow) (as := [_]) 6 rfl rfl ml_X12_303 (s_Mo_isKeptRow h) rfl rfl (Nat.le_of_ble_eq_true rfl) ⟨Nat.le_of_ble_eq_true rfl, Nat.le_of_ble_eq_true rfl⟩ rfl (Nat.le_of_ble_eq_true rfl) (fun σ' z2 a2 => ?_)))
    obtain ⟨hs_, a2⟩ := a2
    rw [hs_]; clear hs_ σ'
    refine ok_if_eq 7 30 rfl rfl rfl (fun h13 => ?_) (fun h13 => ?_)
    · refine ok_iconst 17 rfl rfl (by decide) (ok_iret 18 rfl rfl rfl ?_)
      refine ⟨_, rfl, rfl, ?_⟩
      first | exact Or.inl ⟨rfl, by omega, by omega, by omega, by omega⟩ | exact Or.inr ⟨rfl, by omega⟩
    · refine ok_aload_n 8 rfl rfl rfl (ok_getR 9 rfl rfl fl_X12_51 rfl rfl (ok_bipush 10 rfl rfl (by decide) (by decide) (ok_iload_n 11 rfl rfl rfl (ok_imul 12 rfl rfl (by first | omega | (simp [up_if]; omega) | (simp [up_if] at *; omega)) (ok_iload_n 13 rfl rfl rfl (ok_iadd 14 rfl rfl (by first | omega | (simp [up_if]; omega) | (simp [up_if] at *; omega)) (ok_iald 15 rfl rfl rfl (by first | omega | (simp [up_if]; omega) | (simp [up_if] at *; omega)) (ok_goto 16 31 rfl rfl rfl (ok_iret 18 rfl rfl rfl ?_)))))))))
      refine ⟨_, rfl, rfl, ?_⟩
      first | exact Or.inl ⟨rfl, by omega, by omega, by omega, by omega⟩ | exact Or.inr ⟨rfl, by omega⟩
theorem wt_sum {σ : eS} (h : iK σ) {k : Int} (h0 : 0 ≤ k) (h1 : k ≤ σ 0 27) : 0 ≤ sm (fun q => σ 12 q) k.toNat ∧ sm (fun q => σ 12 q) k.toNat ≤ σ 0 29 := by
  obtain ⟨-, -, -, -, -, -, hw, -⟩ := h
  have key : ∀ (d : Nat) (k : Int), 0 ≤ k → k + d ≤ σ 0 27 → sm (fun q => σ 12 q) k.toNat ≤ sm (fun q => σ 12 q) (k + d).toNat := by
    intro d
    induction d with
    | zero => intro k a b; rw [show k + ((0 : Nat) : Int) = k by omega]; exact Int.le_refl _
    | succ d ih =>
      intro k a b
      have e := ih k a (by omega)
      have e2 := sm_s (fun q => σ 12 q) (j := k + d) (by omega)
      have e3 := hw.1 (k + d) (by omega) (by omega)
      rw [show k + ((d + 1 : Nat) : Int) = k + d + 1 by omega, e2]
      omega
  have a := key k.toNat 0 (by omega) (by omega)
  have b := key (σ 0 27 - k).toNat k h0 (by omega)
  rw [show (0 : Int) + (k.toNat : Int) = k by omega] at a
  rw [show k + ((σ 0 27 - k).toNat : Int) = σ 0 27 by omega, hw.2] at b
  exact ⟨a, b⟩
theorem wt_le {σ : eS} (h : iK σ) {k : Int} (h0 : 0 ≤ k) (h1 : k < σ 0 27) : 1 ≤ σ 12 k ∧ σ 12 k ≤ σ 0 29 := by
  have a := (wt_sum h (k := k + 1) (by omega) (by omega)).2
  rw [sm_s _ h0] at a
  have b := (wt_sum h h0 (by omega)).1
  have c := h.2.2.2.2.2.2.1.1 k h0 h1
  exact ⟨c, by omega⟩
theorem s_Mo_weight {σ : eS} {k w : Int} (h : iK σ) : MtI shB M_Mo_weight [vr 0, vi k, vi w] σ (fun σ' z => σ' = σ) := by
  refine Mt.of okM_Mo_weight (Nat.le_of_ble_eq_true rfl) (fun hk hg => ?_)
  obtain ⟨h1, h2, h3, h4, h5, h6, -⟩ := id h
  refine ok_aload_n 0 rfl rfl rfl (ok_iload_n 1 rfl rfl rfl (ok_callVI (M' := M_Mo_isPartThere) (as := [_]) 2 rfl rfl ml_X12_300 (s_Mo_isPartThere h) rfl rfl (Nat.le_of_ble_eq_true rfl) ⟨Nat.le_of_ble_eq_true rfl, Nat.le_of_ble_eq_true rfl⟩ rfl (Nat.le_of_ble_eq_true rfl) (fun σ' z1 a1 => ?_)))
  obtain ⟨hs_, a1⟩ := a1
  rw [hs_]; clear hs_ σ'
  refine ok_if_eq 3 20 rfl rfl rfl (fun h5 => ?_) (fun h5 => ?_)
  · refine ok_iconst 10 rfl rfl (by decide) (ok_iret 11 rfl rfl rfl ?_)
    exact ⟨_, rfl, rfl⟩
  · refine ok_iload_n 4 rfl rfl rfl (ok_i2l 5 rfl rfl (ok_lconst (w := 0) 6 rfl rfl rfl (by decide) (ok_ldc2 7 (2) rfl rfl kc_X12_306 (by decide) (ok_callSI (M' := M_Mo_isIn) (as := [_, _, _]) 8 rfl rfl ml_X12_99 (s_Mo_isIn_r) ⟨Nat.le_of_ble_eq_true rfl, Nat.le_of_ble_eq_true rfl⟩ rfl (Nat.le_of_ble_eq_true rfl) (fun σ' z2 a2 => ?_)))))
    obtain ⟨hs_, a2⟩ := a2
    rw [hs_]; clear hs_ σ'
    refine ok_if_ne 9 22 rfl rfl rfl (fun h17 => ?_) (fun h17 => ?_)
    · have hk := yes1 a1 h5
      obtain ⟨w1, w2⟩ := wt_le h hk.1 hk.2
      obtain ⟨c1, c2⟩ := gcd_pos (a := σ 12 k) (b := σ 0 29) (by omega)
      refine ok_aload_n 12 rfl rfl rfl (ok_getR 13 rfl rfl fl_X12_48 rfl rfl (ok_iload_n 14 rfl rfl rfl (ok_iald 15 rfl rfl rfl (by first | omega | (simp [up_if]; omega) | (simp [up_if] at *; omega)) (ok_i2l 16 rfl rfl (ok_aload_n 17 rfl rfl rfl (ok_getI 18 rfl rfl fl_X12_279 rfl rfl (Or.inl rfl) (ok_i2l 19 rfl rfl (ok_callSL (M' := M_Mo_common) (as := [_, _]) 20 rfl rfl ml_X12_89 (s_Mo_common (by omega) (by omega)) ⟨Nat.le_of_ble_eq_true rfl, Nat.le_of_ble_eq_true rfl⟩ rfl (Nat.le_of_ble_eq_true rfl) (fun σ' z hz => ?_)))))))))
      rw [hz.1, hz.2]
      clear hz z σ'
      refine ok_l2i 21 rfl rfl (by first | omega | (simp [up_if]; omega) | (simp [up_if] at *; omega)) (ok_ist3 22 rfl rfl rfl (ok_iload_n 23 rfl rfl rfl (ok_if_ne 24 52 rfl rfl rfl (fun h40 => ?_) (fun h40 => ?_))))
      · refine ok_iload_n 30 rfl rfl rfl (ok_iconst 31 rfl rfl (by decide) (ok_icmp_ne 32 68 rfl rfl rfl (fun h54 => ?_) (fun h54 => ?_)))
        · refine ok_aload_n 40 rfl rfl rfl (ok_getI 41 rfl rfl fl_X12_279 rfl rfl (Or.inl rfl) (ok_iload_n 42 rfl rfl rfl (ok_idiv 43 rfl rfl (by omega) (by omega) (ok_iret 44 rfl rfl rfl ?_))))
          exact ⟨_, rfl, rfl⟩
        · refine ok_aload_n 33 rfl rfl rfl (ok_getR 34 rfl rfl fl_X12_48 rfl rfl (ok_iload_n 35 rfl rfl rfl (ok_iald 36 rfl rfl rfl (by first | omega | (simp [up_if]; omega) | (simp [up_if] at *; omega)) (ok_iload_n 37 rfl rfl rfl (ok_idiv 38 rfl rfl (by omega) (by omega) (ok_goto 39 74 rfl rfl rfl (ok_iret 44 rfl rfl rfl ?_)))))))
          exact ⟨_, rfl, rfl⟩
      · refine ok_aload_n 25 rfl rfl rfl (ok_getR 26 rfl rfl fl_X12_48 rfl rfl (ok_iload_n 27 rfl rfl rfl (ok_iald 28 rfl rfl rfl (by first | omega | (simp [up_if]; omega) | (simp [up_if] at *; omega)) (ok_goto 29 74 rfl rfl rfl (ok_iret 44 rfl rfl rfl ?_)))))
        exact ⟨_, rfl, rfl⟩
    · refine ok_iconst 10 rfl rfl (by decide) (ok_iret 11 rfl rfl rfl ?_)
      exact ⟨_, rfl, rfl⟩
theorem s_Mo_draw {σ : eS} {r : Int} (h : iK σ) : MtI shB M_Mo_draw [vr 0, vi r] σ (fun σ' z => σ' = σ ∧ ((z = -1 ∧ ¬ (1 ≤ σ 0 27 ∧ 0 ≤ r ∧ r < σ 0 29)) ∨ (1 ≤ σ 0 27 ∧ 0 ≤ r ∧ r < σ 0 29 ∧ 0 ≤ z ∧ z < σ 0 27))) := by
  refine Mt.of okM_Mo_draw (Nat.le_of_ble_eq_true rfl) (fun hk hg => ?_)
  obtain ⟨h1, h2, h3, h4, h5, h6, -⟩ := id h
  refine ok_aload_n 0 rfl rfl rfl (ok_getI 1 rfl rfl fl_X12_273 rfl rfl (Or.inl rfl) (ok_if_eq 2 23 rfl rfl rfl (fun h4 => ?_) (fun h4 => ?_)))
  · refine ok_iconst 13 rfl rfl (by decide) (ok_iret 14 rfl rfl rfl ?_)
    exact ⟨_, rfl, rfl, Or.inl ⟨rfl, by omega⟩⟩
  · refine ok_iload_n 3 rfl rfl rfl (ok_i2l 4 rfl rfl (ok_lconst (w := 0) 5 rfl rfl rfl (by decide) (ok_aload_n 6 rfl rfl rfl (ok_getI 7 rfl rfl fl_X12_279 rfl rfl (Or.inl rfl) (ok_iconst 8 rfl rfl (by decide) (ok_isub 9 rfl rfl (by first | omega | (simp [up_if]; omega) | (simp [up_if] at *; omega)) (ok_i2l 10 rfl rfl (ok_callSI (M' := M_Mo_isIn) (as := [_, _, _]) 11 rfl rfl ml_X12_99 (s_Mo_isIn_r) ⟨Nat.le_of_ble_eq_true rfl, Nat.le_of_ble_eq_true rfl⟩ rfl (Nat.le_of_ble_eq_true rfl) (fun σ' z1 a1 => ?_)))))))))
    obtain ⟨hs_, a1⟩ := a1
    rw [hs_]; clear hs_ σ'
    refine ok_if_ne 12 25 rfl rfl rfl (fun h20 => ?_) (fun h20 => ?_)
    · refine ok_iconst 15 rfl rfl (by decide) (ok_ist2 16 rfl rfl rfl (ok_iload_n 17 rfl rfl rfl (ok_ist3 18 rfl rfl rfl ?_)))
      have hr := yes1 a1 h20
      refine lpO2 (fun k l : Int => [some (vr 0), some (vi r), some (vi k), some (vi l)]) (fun _ _ => σ) (fun k l => 0 ≤ k ∧ k < σ 0 27 ∧ 0 ≤ l ∧ l < σ 0 29 - sm (fun q => σ 12 q) k.toNat) (fun k _ => (64 - k).toNat) ?_ 0 r ⟨by omega, by omega, by omega, by show r < σ 0 29 - 0; omega⟩
      rintro k l ⟨k1, k2, k3, k4⟩ ih
      obtain ⟨w1, w2⟩ := wt_le h k1 k2
      obtain ⟨w3, w4⟩ := wt_sum h k1 (by omega)
      have e := sm_s (fun q => σ 12 q) k1
      have w5 := (wt_sum h (k := k + 1) (by omega) (by omega)).2
      have last : k + 1 = σ 0 27 → sm (fun q => σ 12 q) (k + 1).toNat = σ 0 29 := fun q => by rw [q]; exact h.2.2.2.2.2.2.1.2
      refine ok_iload_n 19 rfl rfl rfl (ok_aload_n 20 rfl rfl rfl (ok_getR 21 rfl rfl fl_X12_48 rfl rfl (ok_iload_n 22 rfl rfl rfl (ok_iald 23 rfl rfl rfl (by first | omega | (simp [up_if]; omega) | (simp [up_if] at *; omega)) (ok_icmp_lt 24 54 rfl rfl rfl (fun h36 => ?_) (fun h36 => ?_))))))
      · refine ok_iload_n 34 rfl rfl rfl (ok_iret 35 rfl rfl rfl ?_)
        exact ⟨_, rfl, rfl, Or.inr ⟨by omega, hr.1, by omega, k1, k2⟩⟩
      · refine ok_iload_n 25 rfl rfl rfl (ok_aload_n 26 rfl rfl rfl (ok_getR 27 rfl rfl fl_X12_48 rfl rfl (ok_iload_n 28 rfl rfl rfl (ok_iald 29 rfl rfl rfl (by first | omega | (simp [up_if]; omega) | (simp [up_if] at *; omega)) (ok_isub 30 rfl rfl (by first | omega | (simp [up_if]; omega) | (simp [up_if] at *; omega)) (ok_ist3 31 rfl rfl rfl (ok_inc2 32 rfl rfl rfl (by first | omega | (simp [up_if]; omega) | (simp [up_if] at *; omega)) (ok_goto 33 29 rfl rfl rfl ?_))))))))
        exact ih (k + 1) _ ⟨by omega, by rcases (show k + 1 = σ 0 27 ∨ k + 1 < σ 0 27 by omega) with q | q; have := last q; omega; exact q, by omega, by omega⟩ (by omega)
    · refine ok_iconst 13 rfl rfl (by decide) (ok_iret 14 rfl rfl rfl ?_)
      exact ⟨_, rfl, rfl, Or.inl ⟨rfl, by omega⟩⟩
theorem s_Mo_together {σ : eS} {r j : Int} (h : iK σ) (hr : 0 ≤ r ∧ r < σ 0 28) : MtI shB M_Mo_together [vr 0, vi r, vi j] σ (fun σ' z => σ' = σ ∧ 0 ≤ z ∧ z ≤ σ 0 29) := by
  refine Mt.of okM_Mo_together (Nat.le_of_ble_eq_true rfl) (fun hk hg => ?_)
  obtain ⟨h1, h2, h3, h4, h5, h6, -⟩ := id h
  refine ok_iconst 0 rfl rfl (by decide) (ok_ist3 1 rfl rfl rfl (ok_iconst 2 rfl rfl (by decide) (ok_ist4 3 rfl rfl rfl ?_)))
  refine lpO2 (fun v p : Int => [some (vr 0), some (vi r), some (vi j), some (vi v), some (vi p)]) (fun _ _ => σ) (fun v p => 0 ≤ p ∧ p ≤ σ 0 27 ∧ 0 ≤ v ∧ v ≤ sm (fun q => σ 12 q) p.toNat) (fun _ p => (64 - p).toNat) ?_ 0 0 ⟨by omega, by omega, by omega, by show (0 : Int) ≤ 0; omega⟩
  rintro v p ⟨k1, k2, k3, k4⟩ ih
  obtain ⟨w3, w4⟩ := wt_sum h k1 (by omega)
  refine ok_iload 4 rfl rfl rfl (ok_aload_n 5 rfl rfl rfl (ok_getI 6 rfl rfl fl_X12_273 rfl rfl (Or.inl rfl) (ok_icmp_ge 7 50 rfl rfl rfl (fun h11 => ?_) (fun h11 => ?_))))
  · refine ok_iload_n 29 rfl rfl rfl (ok_iret 30 rfl rfl rfl ?_)
    exact ⟨_, rfl, rfl, k3, by omega⟩
  · obtain ⟨w1, w2⟩ := wt_le h k1 (by omega)
    have e := sm_s (fun q => σ 12 q) k1
    have w5 := (wt_sum h (k := p + 1) (by omega) (by omega)).2
    refine ok_iload_n 8 rfl rfl rfl (ok_aload_n 9 rfl rfl rfl (ok_getR 10 rfl rfl fl_X12_51 rfl rfl (ok_bipush 11 rfl rfl (by decide) (by decide) (ok_iload 12 rfl rfl rfl (ok_imul 13 rfl rfl (by first | omega | (simp [up_if]; omega) | (simp [up_if] at *; omega)) (ok_iload_n 14 rfl rfl rfl (ok_iadd 15 rfl rfl (by first | omega | (simp [up_if]; omega) | (simp [up_if] at *; omega)) (ok_iald 16 rfl rfl rfl (by first | omega | (simp [up_if]; omega) | (simp [up_if] at *; omega)) (ok_iload_n 17 rfl rfl rfl (ok_icmp_ne 18 41 rfl rfl rfl (fun h28 => ?_) (fun h28 => ?_)))))))))))
    · refine ok_iconst 24 rfl rfl (by decide) (ok_iadd 25 rfl rfl (by first | omega | (simp [up_if]; omega) | (simp [up_if] at *; omega)) (ok_ist3 26 rfl rfl rfl (ok_inc4 27 rfl rfl rfl (by first | omega | (simp [up_if]; omega) | (simp [up_if] at *; omega)) (ok_goto 28 5 rfl rfl rfl ?_))))
      exact ih _ (p + 1) ⟨by omega, by omega, by omega, by omega⟩ (by omega)
    · refine ok_aload_n 19 rfl rfl rfl (ok_getR 20 rfl rfl fl_X12_48 rfl rfl (ok_iload 21 rfl rfl rfl (ok_iald 22 rfl rfl rfl (by first | omega | (simp [up_if]; omega) | (simp [up_if] at *; omega)) (ok_goto 23 42 rfl rfl rfl (ok_iadd 25 rfl rfl (by first | omega | (simp [up_if]; omega) | (simp [up_if] at *; omega)) (ok_ist3 26 rfl rfl rfl (ok_inc4 27 rfl rfl rfl (by first | omega | (simp [up_if]; omega) | (simp [up_if] at *; omega)) (ok_goto 28 5 rfl rfl rfl ?_))))))))
      exact ih _ (p + 1) ⟨by omega, by omega, by omega, by omega⟩ (by omega)
theorem s_Mo_most {σ : eS} {r w : Int} (h : iK σ) : MtI shB M_Mo_most [vr 0, vi r, vi w] σ (fun σ' z => σ' = σ) := by
  refine Mt.of okM_Mo_most (Nat.le_of_ble_eq_true rfl) (fun hk hg => ?_)
  obtain ⟨h1, h2, h3, h4, h5, h6, -⟩ := id h
  refine ok_aload_n 0 rfl rfl rfl (ok_getI 1 rfl rfl fl_X12_273 rfl rfl (Or.inl rfl) (ok_if_eq 2 27 rfl rfl rfl (fun h4 => ?_) (fun h4 => ?_)))
  · refine ok_iconst 13 rfl rfl (by decide) (ok_iret 14 rfl rfl rfl ?_)
    exact ⟨_, rfl, rfl⟩
  · refine ok_aload_n 3 rfl rfl rfl (ok_iload_n 4 rfl rfl rfl (ok_callVI (M' := M_Mo_isKeptRow) (as := [_]) 5 rfl rfl ml_X12_303 (s_Mo_isKeptRow h) rfl rfl (Nat.le_of_ble_eq_true rfl) ⟨Nat.le_of_ble_eq_true rfl, Nat.le_of_ble_eq_true rfl⟩ rfl (Nat.le_of_ble_eq_true rfl) (fun σ' z1 a1 => ?_)))
    obtain ⟨hs_, a1⟩ := a1
    rw [hs_]; clear hs_ σ'
    refine ok_if_eq 6 27 rfl rfl rfl (fun h12 => ?_) (fun h12 => ?_)
    · refine ok_iconst 13 rfl rfl (by decide) (ok_iret 14 rfl rfl rfl ?_)
      exact ⟨_, rfl, rfl⟩
    · refine ok_iload_n 7 rfl rfl rfl (ok_i2l 8 rfl rfl (ok_lconst (w := 0) 9 rfl rfl rfl (by decide) (ok_ldc2 10 (2) rfl rfl kc_X12_306 (by decide) (ok_callSI (M' := M_Mo_isIn) (as := [_, _, _]) 11 rfl rfl ml_X12_99 (s_Mo_isIn_r) ⟨Nat.le_of_ble_eq_true rfl, Nat.le_of_ble_eq_true rfl⟩ rfl (Nat.le_of_ble_eq_true rfl) (fun σ' z2 a2 => ?_)))))
      obtain ⟨hs_, a2⟩ := a2
      rw [hs_]; clear hs_ σ'
      refine ok_if_ne 12 29 rfl rfl rfl (fun h24 => ?_) (fun h24 => ?_)
      · refine ok_iconst 15 rfl rfl (by decide) (ok_ist3 16 rfl rfl rfl (ok_iconst 17 rfl rfl (by decide) (ok_ist4 18 rfl rfl rfl (ok_iconst 19 rfl rfl (by decide) (ok_ist5 20 rfl rfl rfl ?_)))))
        have hr := yes1 a1 h12
        refine lpO3 (fun b c j : Int => [some (vr 0), some (vi r), some (vi w), some (vi b), some (vi c), some (vi j)]) (fun _ _ _ => σ) (fun b c j => 0 ≤ j ∧ j ≤ σ 0 28 ∧ 0 ≤ c ∧ c ≤ j) (fun _ _ j => (8 - j).toNat) ?_ 0 0 0 ⟨by omega, by omega, by omega, by omega⟩
        rintro b c j ⟨j1, j2, j3, j4⟩ ih
        refine ok_iload 21 rfl rfl rfl (ok_aload_n 22 rfl rfl rfl (ok_getI 23 rfl rfl fl_X12_276 rfl rfl (Or.inl rfl) (ok_icmp_ge 24 94 rfl rfl rfl (fun h43 => ?_) (fun h43 => ?_))))
        · refine ok_iload_n 50 rfl rfl rfl (ok_if_ne 51 102 rfl rfl rfl (fun h95 => ?_) (fun h95 => ?_))
          · refine ok_iload_n 54 rfl rfl rfl (ok_iconst 55 rfl rfl (by decide) (ok_icmp_ne 56 116 rfl rfl rfl (fun h104 => ?_) (fun h104 => ?_)))
            · refine ok_iload 62 rfl rfl rfl (ok_iret 63 rfl rfl rfl ?_)
              exact ⟨_, rfl, rfl⟩
            · refine ok_aload_n 57 rfl rfl rfl (ok_iload_n 58 rfl rfl rfl (ok_iload_n 59 rfl rfl rfl (ok_callVI (M' := M_Mo_together) (as := [_, _]) 60 rfl rfl ml_X12_308 (s_Mo_together h hr) rfl rfl (Nat.le_of_ble_eq_true rfl) ⟨Nat.le_of_ble_eq_true rfl, Nat.le_of_ble_eq_true rfl⟩ rfl (Nat.le_of_ble_eq_true rfl) (fun σ' t4 b4 => ?_))))
              obtain ⟨hs_, b4⟩ := b4
              rw [hs_]; clear hs_ σ'
              refine ok_goto 61 118 rfl rfl rfl (ok_iret 63 rfl rfl rfl ?_)
              exact ⟨_, rfl, rfl⟩
          · refine ok_iload_n 52 rfl rfl rfl (ok_goto 53 118 rfl rfl rfl (ok_iret 63 rfl rfl rfl ?_))
            exact ⟨_, rfl, rfl⟩
        · refine ok_aload_n 25 rfl rfl rfl (ok_iload_n 26 rfl rfl rfl (ok_iload 27 rfl rfl rfl (ok_callVI (M' := M_Mo_together) (as := [_, _]) 28 rfl rfl ml_X12_308 (s_Mo_together h hr) rfl rfl (Nat.le_of_ble_eq_true rfl) ⟨Nat.le_of_ble_eq_true rfl, Nat.le_of_ble_eq_true rfl⟩ rfl (Nat.le_of_ble_eq_true rfl) (fun σ' t1 b1 => ?_))))
          obtain ⟨hs_, b1⟩ := b1
          rw [hs_]; clear hs_ σ'
          refine ok_aload_n 29 rfl rfl rfl (ok_iload_n 30 rfl rfl rfl (ok_iload_n 31 rfl rfl rfl (ok_callVI (M' := M_Mo_together) (as := [_, _]) 32 rfl rfl ml_X12_308 (s_Mo_together h hr) rfl rfl (Nat.le_of_ble_eq_true rfl) ⟨Nat.le_of_ble_eq_true rfl, Nat.le_of_ble_eq_true rfl⟩ rfl (Nat.le_of_ble_eq_true rfl) (fun σ' t2 b2 => ?_))))
          obtain ⟨hs_, b2⟩ := b2
          rw [hs_]; clear hs_ σ'
          refine ok_icmp_le 33 65 rfl rfl rfl (fun h59 => ?_) (fun h59 => ?_)
          · refine ok_iload 36 rfl rfl rfl (ok_aload_n 37 rfl rfl rfl (ok_iload_n 38 rfl rfl rfl (ok_iload 39 rfl rfl rfl (ok_callVI (M' := M_Mo_together) (as := [_, _]) 40 rfl rfl ml_X12_308 (s_Mo_together h hr) rfl rfl (Nat.le_of_ble_eq_true rfl) ⟨Nat.le_of_ble_eq_true rfl, Nat.le_of_ble_eq_true rfl⟩ rfl (Nat.le_of_ble_eq_true rfl) (fun σ' t3 b3 => ?_)))))
            obtain ⟨hs_, b3⟩ := b3
            rw [hs_]; clear hs_ σ'
            refine ok_if_le 41 81 rfl rfl rfl (fun h74 => ?_) (fun h74 => ?_)
            · refine ok_iconst 44 rfl rfl (by decide) (ok_callSI (M' := M_Mo_one) (as := [_]) 45 rfl rfl ml_X12_192 (s_Mo_one) ⟨Nat.le_of_ble_eq_true rfl, Nat.le_of_ble_eq_true rfl⟩ rfl (Nat.le_of_ble_eq_true rfl) (fun σ' z hz => ?_))
              obtain ⟨hs_, hz⟩ := hz
              rw [hs_]; clear hs_ σ'
              have q1 : 0 ≤ z ∧ z ≤ 1 := by rw [hz]; split <;> omega
              refine ok_iadd 46 rfl rfl (by first | omega | (simp [up_if]; omega) | (simp [up_if] at *; omega)) (ok_ist4 47 rfl rfl rfl (ok_inc5 48 rfl rfl rfl (by first | omega | (simp [up_if]; omega) | (simp [up_if] at *; omega)) (ok_goto 49 37 rfl rfl rfl ?_)))
              exact ih _ _ (j + 1) ⟨by omega, by omega, by omega, by omega⟩ (by omega)
            · refine ok_iconst 42 rfl rfl (by decide) (ok_goto 43 82 rfl rfl rfl (ok_callSI (M' := M_Mo_one) (as := [_]) 45 rfl rfl ml_X12_192 (s_Mo_one) ⟨Nat.le_of_ble_eq_true rfl, Nat.le_of_ble_eq_true rfl⟩ rfl (Nat.le_of_ble_eq_true rfl) (fun σ' z hz => ?_)))
              obtain ⟨hs_, hz⟩ := hz
              rw [hs_]; clear hs_ σ'
              have q1 : 0 ≤ z ∧ z ≤ 1 := by rw [hz]; split <;> omega
              refine ok_iadd 46 rfl rfl (by first | omega | (simp [up_if]; omega) | (simp [up_if] at *; omega)) (ok_ist4 47 rfl rfl rfl (ok_inc5 48 rfl rfl rfl (by first | omega | (simp [up_if]; omega) | (simp [up_if] at *; omega)) (ok_goto 49 37 rfl rfl rfl ?_)))
              exact ih _ _ (j + 1) ⟨by omega, by omega, by omega, by omega⟩ (by omega)
          · refine ok_iload 34 rfl rfl rfl (ok_ist3 35 rfl rfl rfl (ok_iload 36 rfl rfl rfl (ok_aload_n 37 rfl rfl rfl (ok_iload_n 38 rfl rfl rfl (ok_iload 39 rfl rfl rfl (ok_callVI (M' := M_Mo_together) (as := [_, _]) 40 rfl rfl ml_X12_308 (s_Mo_together h hr) rfl rfl (Nat.le_of_ble_eq_true rfl) ⟨Nat.le_of_ble_eq_true rfl, Nat.le_of_ble_eq_true rfl⟩ rfl (Nat.le_of_ble_eq_true rfl) (fun σ' t3 b3 => ?_)))))))
            obtain ⟨hs_, b3⟩ := b3
            rw [hs_]; clear hs_ σ'
            refine ok_if_le 41 81 rfl rfl rfl (fun h74 => ?_) (fun h74 => ?_)
            · refine ok_iconst 44 rfl rfl (by decide) (ok_callSI (M' := M_Mo_one) (as := [_]) 45 rfl rfl ml_X12_192 (s_Mo_one) ⟨Nat.le_of_ble_eq_true rfl, Nat.le_of_ble_eq_true rfl⟩ rfl (Nat.le_of_ble_eq_true rfl) (fun σ' z hz => ?_))
              obtain ⟨hs_, hz⟩ := hz
              rw [hs_]; clear hs_ σ'
              have q1 : 0 ≤ z ∧ z ≤ 1 := by rw [hz]; split <;> omega
              refine ok_iadd 46 rfl rfl (by first | omega | (simp [up_if]; omega) | (simp [up_if] at *; omega)) (ok_ist4 47 rfl rfl rfl (ok_inc5 48 rfl rfl rfl (by first | omega | (simp [up_if]; omega) | (simp [up_if] at *; omega)) (ok_goto 49 37 rfl rfl rfl ?_)))
              exact ih _ _ (j + 1) ⟨by omega, by omega, by omega, by omega⟩ (by omega)
            · refine ok_iconst 42 rfl rfl (by decide) (ok_goto 43 82 rfl rfl rfl (ok_callSI (M' := M_Mo_one) (as := [_]) 45 rfl rfl ml_X12_192 (s_Mo_one) ⟨Nat.le_of_ble_eq_true rfl, Nat.le_of_ble_eq_true rfl⟩ rfl (Nat.le_of_ble_eq_true rfl) (fun σ' z hz => ?_)))
              obtain ⟨hs_, hz⟩ := hz
              rw [hs_]; clear hs_ σ'
              have q1 : 0 ≤ z ∧ z ≤ 1 := by rw [hz]; split <;> omega
              refine ok_iadd 46 rfl rfl (by first | omega | (simp [up_if]; omega) | (simp [up_if] at *; omega)) (ok_ist4 47 rfl rfl rfl (ok_inc5 48 rfl rfl rfl (by first | omega | (simp [up_if]; omega) | (simp [up_if] at *; omega)) (ok_goto 49 37 rfl rfl rfl ?_)))
              exact ih _ _ (j + 1) ⟨by omega, by omega, by omega, by omega⟩ (by omega)
      · refine ok_iconst 13 rfl rfl (by decide) (ok_iret 14 rfl rfl rfl ?_)
        exact ⟨_, rfl, rfl⟩
theorem s_Mo_joint {σ : eS} {i j k l w : Int} (h : iK σ) : MtI shB M_Mo_joint [vr 0, vi i, vi j, vi k, vi l, vi w] σ (fun σ' z => σ' = σ) := by
  refine Mt.of okM_Mo_joint (Nat.le_of_ble_eq_true rfl) (fun hk hg => ?_)
  obtain ⟨h1, h2, h3, h4, h5, h6, -⟩ := id h
  refine ok_aload_n 0 rfl rfl rfl (ok_getI 1 rfl rfl fl_X12_273 rfl rfl (Or.inl rfl) (ok_if_eq 2 51 rfl rfl rfl (fun h4 => ?_) (fun h4 => ?_)))
  · refine ok_iconst 25 rfl rfl (by decide) (ok_iret 26 rfl rfl rfl ?_)
    exact ⟨_, rfl, rfl⟩
  · refine ok_aload_n 3 rfl rfl rfl (ok_iload_n 4 rfl rfl rfl (ok_callVI (M' := M_Mo_isKeptRow) (as := [_]) 5 rfl rfl ml_X12_303 (s_Mo_isKeptRow h) rfl rfl (Nat.le_of_ble_eq_true rfl) ⟨Nat.le_of_ble_eq_true rfl, Nat.le_of_ble_eq_true rfl⟩ rfl (Nat.le_of_ble_eq_true rfl) (fun σ' z1 a1 => ?_)))
    obtain ⟨hs_, a1⟩ := a1
    rw [hs_]; clear hs_ σ'
    refine ok_if_eq 6 51 rfl rfl rfl (fun h12 => ?_) (fun h12 => ?_)
    · refine ok_iconst 25 rfl rfl (by decide) (ok_iret 26 rfl rfl rfl ?_)
      exact ⟨_, rfl, rfl⟩
    · refine ok_aload_n 7 rfl rfl rfl (ok_iload_n 8 rfl rfl rfl (ok_callVI (M' := M_Mo_isKeptRow) (as := [_]) 9 rfl rfl ml_X12_303 (s_Mo_isKeptRow h) rfl rfl (Nat.le_of_ble_eq_true rfl) ⟨Nat.le_of_ble_eq_true rfl, Nat.le_of_ble_eq_true rfl⟩ rfl (Nat.le_of_ble_eq_true rfl) (fun σ' z2 a2 => ?_)))
      obtain ⟨hs_, a2⟩ := a2
      rw [hs_]; clear hs_ σ'
      refine ok_if_eq 10 51 rfl rfl rfl (fun h20 => ?_) (fun h20 => ?_)
      · refine ok_iconst 25 rfl rfl (by decide) (ok_iret 26 rfl rfl rfl ?_)
        exact ⟨_, rfl, rfl⟩
      · refine ok_aload_n 11 rfl rfl rfl (ok_iload_n 12 rfl rfl rfl (ok_callVI (M' := M_Mo_isKeptRow) (as := [_]) 13 rfl rfl ml_X12_303 (s_Mo_isKeptRow h) rfl rfl (Nat.le_of_ble_eq_true rfl) ⟨Nat.le_of_ble_eq_true rfl, Nat.le_of_ble_eq_true rfl⟩ rfl (Nat.le_of_ble_eq_true rfl) (fun σ' z3 a3 => ?_)))
        obtain ⟨hs_, a3⟩ := a3
        rw [hs_]; clear hs_ σ'
        refine ok_if_eq 14 51 rfl rfl rfl (fun h28 => ?_) (fun h28 => ?_)
        · refine ok_iconst 25 rfl rfl (by decide) (ok_iret 26 rfl rfl rfl ?_)
          exact ⟨_, rfl, rfl⟩
        · refine ok_aload_n 15 rfl rfl rfl (ok_iload 16 rfl rfl rfl (ok_callVI (M' := M_Mo_isKeptRow) (as := [_]) 17 rfl rfl ml_X12_303 (s_Mo_isKeptRow h) rfl rfl (Nat.le_of_ble_eq_true rfl) ⟨Nat.le_of_ble_eq_true rfl, Nat.le_of_ble_eq_true rfl⟩ rfl (Nat.le_of_ble_eq_true rfl) (fun σ' z4 a4 => ?_)))
          obtain ⟨hs_, a4⟩ := a4
          rw [hs_]; clear hs_ σ'
          refine ok_if_eq 18 51 rfl rfl rfl (fun h37 => ?_) (fun h37 => ?_)
          · refine ok_iconst 25 rfl rfl (by decide) (ok_iret 26 rfl rfl rfl ?_)
            exact ⟨_, rfl, rfl⟩
          · refine ok_iload 19 rfl rfl rfl (ok_i2l 20 rfl rfl (ok_lconst (w := 0) 21 rfl rfl rfl (by decide) (ok_lconst (w := 1) 22 rfl rfl rfl (by decide) (ok_callSI (M' := M_Mo_isIn) (as := [_, _, _]) 23 rfl rfl ml_X12_99 (s_Mo_isIn_r) ⟨Nat.le_of_ble_eq_true rfl, Nat.le_of_ble_eq_true rfl⟩ rfl (Nat.le_of_ble_eq_true rfl) (fun σ' z5 a5 => ?_)))))
            obtain ⟨hs_, a5⟩ := a5
            rw [hs_]; clear hs_ σ'
            refine ok_if_ne 24 53 rfl rfl rfl (fun h48 => ?_) (fun h48 => ?_)
            · refine ok_iconst 27 rfl rfl (by decide) (ok_ist6 28 rfl rfl rfl (ok_iconst 29 rfl rfl (by decide) (ok_ist7 30 rfl rfl rfl ?_)))
              have r1 := yes1 a1 h12
              have r3 := yes1 a3 h28
              refine lpO2 (fun v p : Int => [some (vr 0), some (vi i), some (vi j), some (vi k), some (vi l), some (vi w), some (vi v), some (vi p)]) (fun _ _ => σ) (fun v p => 0 ≤ p ∧ p ≤ σ 0 27 ∧ 0 ≤ v ∧ v ≤ sm (fun q => σ 12 q) p.toNat) (fun _ p => (64 - p).toNat) ?_ 0 0 ⟨by omega, by omega, by omega, by show (0 : Int) ≤ 0; omega⟩
              rintro v p ⟨k1, k2, k3, k4⟩ ih
              obtain ⟨w3, w4⟩ := wt_sum h k1 (by omega)
              obtain ⟨w6, w7⟩ := wt_le h (k := 0) (by omega) (by omega)
              refine ok_iload 31 rfl rfl rfl (ok_aload_n 32 rfl rfl rfl (ok_getI 33 rfl rfl fl_X12_273 rfl rfl (Or.inl rfl) (ok_icmp_ge 34 123 rfl rfl rfl (fun h65 => ?_) (fun h65 => ?_))))
              · obtain ⟨c1, c2⟩ := gcd_pos (a := σ 0 29) (b := v) (by omega)
                refine ok_aload_n 66 rfl rfl rfl (ok_getI 67 rfl rfl fl_X12_279 rfl rfl (Or.inl rfl) (ok_i2l 68 rfl rfl (ok_iload 69 rfl rfl rfl (ok_i2l 70 rfl rfl (ok_callSL (M' := M_Mo_common) (as := [_, _]) 71 rfl rfl ml_X12_89 (s_Mo_common (by omega) (by omega)) ⟨Nat.le_of_ble_eq_true rfl, Nat.le_of_ble_eq_true rfl⟩ rfl (Nat.le_of_ble_eq_true rfl) (fun σ' z hz => ?_))))))
                rw [hz.1, hz.2]
                clear hz z σ'
                refine ok_l2i 72 rfl rfl (by first | omega | (simp [up_if]; omega) | (simp [up_if] at *; omega)) (ok_ist7 73 rfl rfl rfl (ok_iload 74 rfl rfl rfl (ok_if_ne 75 150 rfl rfl rfl (fun h139 => ?_) (fun h139 => ?_))))
                · refine ok_aload_n 80 rfl rfl rfl (ok_getI 81 rfl rfl fl_X12_279 rfl rfl (Or.inl rfl) (ok_iload 82 rfl rfl rfl (ok_idiv 83 rfl rfl (by omega) (by omega) (ok_iret 84 rfl rfl rfl ?_))))
                  exact ⟨_, rfl, rfl⟩
                · refine ok_iload 76 rfl rfl rfl (ok_iload 77 rfl rfl rfl (ok_idiv 78 rfl rfl (by omega) (by omega) (ok_goto 79 157 rfl rfl rfl (ok_iret 84 rfl rfl rfl ?_))))
                  exact ⟨_, rfl, rfl⟩
              · obtain ⟨w1, w2⟩ := wt_le h k1 (by omega)
                have e := sm_s (fun q => σ 12 q) k1
                have w5 := (wt_sum h (k := p + 1) (by omega) (by omega)).2
                refine ok_iload 35 rfl rfl rfl (ok_aload_n 36 rfl rfl rfl (ok_getR 37 rfl rfl fl_X12_51 rfl rfl (ok_bipush 38 rfl rfl (by decide) (by decide) (ok_iload 39 rfl rfl rfl (ok_imul 40 rfl rfl (by first | omega | (simp [up_if]; omega) | (simp [up_if] at *; omega)) (ok_iload_n 41 rfl rfl rfl (ok_iadd 42 rfl rfl (by first | omega | (simp [up_if]; omega) | (simp [up_if] at *; omega)) (ok_iald 43 rfl rfl rfl (by first | omega | (simp [up_if]; omega) | (simp [up_if] at *; omega)) (ok_iload_n 44 rfl rfl rfl (ok_icmp_ne 45 113 rfl rfl rfl (fun h83 => ?_) (fun h83 => ?_)))))))))))
                · refine ok_iconst 61 rfl rfl (by decide) (ok_iadd 62 rfl rfl (by first | omega | (simp [up_if]; omega) | (simp [up_if] at *; omega)) (ok_ist6 63 rfl rfl rfl (ok_inc7 64 rfl rfl rfl (by first | omega | (simp [up_if]; omega) | (simp [up_if] at *; omega)) (ok_goto 65 59 rfl rfl rfl ?_))))
                  exact ih _ (p + 1) ⟨by omega, by omega, by omega, by omega⟩ (by omega)
                · refine ok_aload_n 46 rfl rfl rfl (ok_getR 47 rfl rfl fl_X12_51 rfl rfl (ok_bipush 48 rfl rfl (by decide) (by decide) (ok_iload 49 rfl rfl rfl (ok_imul 50 rfl rfl (by first | omega | (simp [up_if]; omega) | (simp [up_if] at *; omega)) (ok_iload_n 51 rfl rfl rfl (ok_iadd 52 rfl rfl (by first | omega | (simp [up_if]; omega) | (simp [up_if] at *; omega)) (ok_iald 53 rfl rfl rfl (by first | omega | (simp [up_if]; omega) | (simp [up_if] at *; omega)) (ok_iload 54 rfl rfl rfl (ok_icmp_ne 55 113 rfl rfl rfl (fun h100 => ?_) (fun h100 => ?_))))))))))
                  · refine ok_iconst 61 rfl rfl (by decide) (ok_iadd 62 rfl rfl (by first | omega | (simp [up_if]; omega) | (simp [up_if] at *; omega)) (ok_ist6 63 rfl rfl rfl (ok_inc7 64 rfl rfl rfl (by first | omega | (simp [up_if]; omega) | (simp [up_if] at *; omega)) (ok_goto 65 59 rfl rfl rfl ?_))))
                    exact ih _ (p + 1) ⟨by omega, by omega, by omega, by omega⟩ (by omega)
                  · refine ok_aload_n 56 rfl rfl rfl (ok_getR 57 rfl rfl fl_X12_48 rfl rfl (ok_iload 58 rfl rfl rfl (ok_iald 59 rfl rfl rfl (by first | omega | (simp [up_if]; omega) | (simp [up_if] at *; omega)) (ok_goto 60 114 rfl rfl rfl (ok_iadd 62 rfl rfl (by first | omega | (simp [up_if]; omega) | (simp [up_if] at *; omega)) (ok_ist6 63 rfl rfl rfl (ok_inc7 64 rfl rfl rfl (by first | omega | (simp [up_if]; omega) | (simp [up_if] at *; omega)) (ok_goto 65 59 rfl rfl rfl ?_))))))))
                    exact ih _ (p + 1) ⟨by omega, by omega, by omega, by omega⟩ (by omega)
            · refine ok_iconst 25 rfl rfl (by decide) (ok_iret 26 rfl rfl rfl ?_)
              exact ⟨_, rfl, rfl⟩
theorem s_Mo_ruleOf {σ : eS} {w k : Int} (hk : 0 ≤ k ∧ k ≤ 3) : MtI shB M_Mo_ruleOf [vi w, vi k] σ (fun σ' z => σ' = σ ∧ z = iand (ishr w (6 - 2 * k)) 3) := by
  refine Mt.of okM_Mo_ruleOf (Nat.le_of_ble_eq_true rfl) (fun hk hg => ?_)
  refine ok_iload_n 0 rfl rfl rfl (ok_bipush 1 rfl rfl (by decide) (by decide) (ok_iconst 2 rfl rfl (by decide) (ok_iload_n 3 rfl rfl rfl (ok_imul 4 rfl rfl (by first | omega | (simp [up_if]; omega) | (simp [up_if] at *; omega)) (ok_isub 5 rfl rfl (by first | omega | (simp [up_if]; omega) | (simp [up_if] at *; omega)) (ok_ishr 6 rfl rfl (ok_iconst 7 rfl rfl (by decide) (ok_iand 8 rfl rfl (ok_iret 9 rfl rfl rfl ?_)))))))))
  exact ⟨_, rfl, rfl, rfl⟩
theorem s_Mo_lies {σ : eS} {s a b : Int} (hB : iB1 σ) (hs : 0 ≤ s ∧ s < 4) (h3 : σ 1 s = 3) (ha : 0 ≤ a ∧ a ≤ 2) (hb : 0 ≤ b ∧ b ≤ 2) : MtL shB M_Mo_lies [vr 0, vi s, vi a, vi b] σ (fun σ' z => σ' = σ ∧ 0 ≤ z ∧ z ≤ 99999999) := by
  refine Mt.of okM_Mo_lies (Nat.le_of_ble_eq_true rfl) (fun hk hg => ?_)
  refine ok_iconst 0 rfl rfl (by decide) (ok_ist4 1 rfl rfl rfl ?_)
  refine lpO (fun i : Int => [some (vr 0), some (vi s), some (vi a), some (vi b), some (vi i)]) (fun _ => σ) (fun i => 0 ≤ i ∧ i ≤ 3) (fun i => (3 - i).toNat) ?_ 0 ⟨by omega, by omega⟩
  rintro i ⟨i1, i2⟩ ih
  refine ok_iload 2 rfl rfl rfl (ok_iconst 3 rfl rfl (by decide) (ok_icmp_ge 4 47 rfl rfl rfl (fun h6 => ?_) (fun h6 => ?_)))
  · refine ok_lconst (w := 0) 31 rfl rfl rfl (by decide) (ok_lret 32 rfl rfl rfl ?_)
    exact ⟨_, rfl, rfl, by omega, by omega⟩
  · refine ok_iload 5 rfl rfl rfl (ok_iload_n 6 rfl rfl rfl (ok_iadd 7 rfl rfl (by first | omega | (simp [up_if]; omega) | (simp [up_if] at *; omega)) (ok_iconst 8 rfl rfl (by decide) (ok_irem 9 rfl rfl (by first | omega | (simp [up_if]; omega) | (simp [up_if] at *; omega)) (by first | omega | (simp [up_if]; omega) | (simp [up_if] at *; omega)) (ok_iload_n 10 rfl rfl rfl (ok_iload 11 rfl rfl rfl (ok_isub 12 rfl rfl (by first | omega | (simp [up_if]; omega) | (simp [up_if] at *; omega)) (ok_iconst 13 rfl rfl (by decide) (ok_iadd 14 rfl rfl (by first | omega | (simp [up_if]; omega) | (simp [up_if] at *; omega)) (ok_iconst 15 rfl rfl (by decide) (ok_irem 16 rfl rfl (by first | omega | (simp [up_if]; omega) | (simp [up_if] at *; omega)) (by first | omega | (simp [up_if]; omega) | (simp [up_if] at *; omega)) (ok_icmp_ne 17 41 rfl rfl rfl (fun h23 => ?_) (fun h23 => ?_)))))))))))))
    · refine ok_inc4 29 rfl rfl rfl (by first | omega | (simp [up_if]; omega) | (simp [up_if] at *; omega)) (ok_goto 30 3 rfl rfl rfl ?_)
      exact ih (i + 1) ⟨by omega, by omega⟩ (by omega)
    · refine ok_aload_n 18 rfl rfl rfl (ok_iload_n 19 rfl rfl rfl (ok_iload 20 rfl rfl rfl (ok_iload 21 rfl rfl rfl (ok_iload_n 22 rfl rfl rfl (ok_iadd 23 rfl rfl (by first | omega | (simp [up_if]; omega) | (simp [up_if] at *; omega)) (ok_iconst 24 rfl rfl (by decide) (ok_irem 25 rfl rfl (by first | omega | (simp [up_if]; omega) | (simp [up_if] at *; omega)) (by first | omega | (simp [up_if]; omega) | (simp [up_if] at *; omega)) (ok_callVI (M' := M_Mo_at) (as := [_, _, _]) 26 rfl rfl ml_X12_107 (s_Mo_at hB hs ⟨by omega, by omega⟩ ⟨by omega, by omega⟩) rfl rfl (Nat.le_of_ble_eq_true rfl) ⟨Nat.le_of_ble_eq_true rfl, Nat.le_of_ble_eq_true rfl⟩ rfl (Nat.le_of_ble_eq_true rfl) (fun σ' z hz => ?_)))))))))
      rw [hz.1, hz.2]; clear hz z σ'
      have hc := cB_bd hB hs (i := i) (j := (i + a) % 3) ⟨by omega, by omega⟩ ⟨by omega, by omega⟩
      refine ok_i2l 27 rfl rfl (ok_lret 28 rfl rfl rfl ?_)
      exact ⟨_, rfl, rfl, hc.1, hc.2⟩
end
section
theorem s_Mo_fewest {σ : eS} {s : Int} (hB : iB1 σ) (ht : tabB σ s) (h3 : σ 1 s ≤ 3) : MtI shB M_Mo_fewest [vr 0, vi s] σ (fun σ' z => σ' = σ) := by
  refine Mt.of okM_Mo_fewest (Nat.le_of_ble_eq_true rfl) (fun hk hg => ?_)
  obtain ⟨t1, t2, t3⟩ := ht
  refine ok_aload_n 0 rfl rfl rfl (ok_getR 1 rfl rfl fl_X12_7 rfl rfl (ok_iload_n 2 rfl rfl rfl (ok_iald 3 rfl rfl rfl (by first | omega | (simp [up_if]; omega) | (simp [up_if] at *; omega)) (ok_iconst 4 rfl rfl (by decide) (ok_icmp_ne 5 12 rfl rfl rfl (fun h7 => ?_) (fun h7 => ?_))))))
  · refine ok_aload_n 8 rfl rfl rfl (ok_getR 9 rfl rfl fl_X12_7 rfl rfl (ok_iload_n 10 rfl rfl rfl (ok_iald 11 rfl rfl rfl (by first | omega | (simp [up_if]; omega) | (simp [up_if] at *; omega)) (ok_iconst 12 rfl rfl (by decide) (ok_icmp_ne 13 60 rfl rfl rfl (fun h19 => ?_) (fun h19 => ?_))))))
    · refine ok_iconst 36 rfl rfl (by decide) (ok_ist2 37 rfl rfl rfl (ok_iconst 38 rfl rfl (by decide) (ok_ist3 39 rfl rfl rfl ?_)))
      have e3 : σ 1 s = 3 := by omega
      refine lpO2 (fun b k : Int => [some (vr 0), some (vi s), some (vi b), some (vi k), none, none, none, none, none, none, none, none, none]) (fun _ _ => σ) (fun _ k => 0 ≤ k ∧ k ≤ 6) (fun _ k => (6 - k).toNat) ?_ (-1) 0 ⟨by omega, by omega⟩
      rintro b k ⟨k1, k2⟩ ih
      have tail : ∀ x : Int, k < 6 → -99999999 ≤ x → x ≤ 99999999 → Ok shB M_Mo_fewest 102 [some (vr 0), some (vi s), some (vi b), some (vi k), none, none, none, none, none, none, none, none, none] [vl x] σ (fun σ' v => ∃ z, v = some (vi z) ∧ σ' = σ) := by
        intro x k6 x1 x2
        refine ok_lst4 65 rfl rfl rfl (ok_iconst 66 rfl rfl (by decide) (ok_ist6 67 rfl rfl rfl (ok_iconst 68 rfl rfl (by decide) (ok_ist7 69 rfl rfl rfl (ok_iconst 70 rfl rfl (by decide) (ok_ist8 71 rfl rfl rfl ?_))))))
        refine lpO3 (fun c o i : Int => [some (vr 0), some (vi s), some (vi b), some (vi k), some (vl x), none, some (vi c), some (vi o), some (vi i), none, none, none, none]) (fun _ _ _ => σ) (fun c _ i => 0 ≤ i ∧ i ≤ 3 ∧ 0 ≤ c ∧ c ≤ 2 * i) (fun _ _ i => (3 - i).toNat) ?_ 0 1 0 ⟨by omega, by omega, by omega, by omega⟩
        rintro c o i ⟨i1, i2, i3, i4⟩ ih2
        refine ok_iload 72 rfl rfl rfl (ok_iconst 73 rfl rfl (by decide) (ok_icmp_ge 74 221 rfl rfl rfl (fun h116 => ?_) (fun h116 => ?_)))
        · refine ok_iload 133 rfl rfl rfl (ok_if_eq 134 240 rfl rfl rfl (fun h223 => ?_) (fun h223 => ?_))
          · refine ok_inc3 143 rfl rfl rfl (by first | omega | (simp [up_if]; omega) | (simp [up_if] at *; omega)) (ok_goto 144 64 rfl rfl rfl ?_)
            exact ok_fg [some (vr 0), some (vi s), some (vi _), some (vi (k + 1)), none, none, none, none, none, none, none, none, none] ⟨rfl, rfl, rfl, rfl, trivial⟩ (ih _ (k + 1) ⟨by omega, by omega⟩ (by omega))
          · refine ok_iload_n 135 rfl rfl rfl (ok_iconst 136 rfl rfl (by decide) (ok_icmp_eq 137 237 rfl rfl rfl (fun h228 => ?_) (fun h228 => ?_)))
            · refine ok_iload 141 rfl rfl rfl (ok_ist2 142 rfl rfl rfl (ok_inc3 143 rfl rfl rfl (by first | omega | (simp [up_if]; omega) | (simp [up_if] at *; omega)) (ok_goto 144 64 rfl rfl rfl ?_)))
              exact ok_fg [some (vr 0), some (vi s), some (vi _), some (vi (k + 1)), none, none, none, none, none, none, none, none, none] ⟨rfl, rfl, rfl, rfl, trivial⟩ (ih _ (k + 1) ⟨by omega, by omega⟩ (by omega))
            · refine ok_iload 138 rfl rfl rfl (ok_iload_n 139 rfl rfl rfl (ok_icmp_ge 140 240 rfl rfl rfl (fun h234 => ?_) (fun h234 => ?_)))
              · refine ok_inc3 143 rfl rfl rfl (by first | omega | (simp [up_if]; omega) | (simp [up_if] at *; omega)) (ok_goto 144 64 rfl rfl rfl ?_)
                exact ok_fg [some (vr 0), some (vi s), some (vi _), some (vi (k + 1)), none, none, none, none, none, none, none, none, none] ⟨rfl, rfl, rfl, rfl, trivial⟩ (ih _ (k + 1) ⟨by omega, by omega⟩ (by omega))
              · refine ok_iload 141 rfl rfl rfl (ok_ist2 142 rfl rfl rfl (ok_inc3 143 rfl rfl rfl (by first | omega | (simp [up_if]; omega) | (simp [up_if] at *; omega)) (ok_goto 144 64 rfl rfl rfl ?_)))
                exact ok_fg [some (vr 0), some (vi s), some (vi _), some (vi (k + 1)), none, none, none, none, none, none, none, none, none] ⟨rfl, rfl, rfl, rfl, trivial⟩ (ih _ (k + 1) ⟨by omega, by omega⟩ (by omega))
        · refine ok_aload_n 75 rfl rfl rfl (ok_iload_n 76 rfl rfl rfl (ok_iload 77 rfl rfl rfl (ok_iconst 78 rfl rfl (by decide) (ok_callVL (M' := M_Mo_lies) (as := [_, _, _]) 79 rfl rfl ml_X12_314 (s_Mo_lies hB ⟨t1, t2⟩ e3 ⟨by omega, by omega⟩ ⟨by omega, by omega⟩) rfl rfl (Nat.le_of_ble_eq_true rfl) ⟨Nat.le_of_ble_eq_true rfl, Nat.le_of_ble_eq_true rfl⟩ rfl (Nat.le_of_ble_eq_true rfl) (fun σ' y hy => ?_)))))
          obtain ⟨hs_, hy⟩ := hy
          rw [hs_]; clear hs_ σ'
          refine ok_aload_n 80 rfl rfl rfl (ok_iload_n 81 rfl rfl rfl (ok_iconst 82 rfl rfl (by decide) (ok_iconst 83 rfl rfl (by decide) (ok_callVL (M' := M_Mo_lies) (as := [_, _, _]) 84 rfl rfl ml_X12_314 (s_Mo_lies hB ⟨t1, t2⟩ e3 ⟨by omega, by omega⟩ ⟨by omega, by omega⟩) rfl rfl (Nat.le_of_ble_eq_true rfl) ⟨Nat.le_of_ble_eq_true rfl, Nat.le_of_ble_eq_true rfl⟩ rfl (Nat.le_of_ble_eq_true rfl) (fun σ' y hy => ?_)))))
          obtain ⟨hs_, hy⟩ := hy
          rw [hs_]; clear hs_ σ'
          refine ok_lsub 85 rfl rfl (by first | omega | (simp [up_if]; omega) | (simp [up_if] at *; omega)) (ok_lload 86 rfl rfl rfl (ok_ladd 87 rfl rfl (by first | omega | (simp [up_if]; omega) | (simp [up_if] at *; omega)) (ok_lst9 88 rfl rfl rfl (ok_aload_n 89 rfl rfl rfl (ok_iload_n 90 rfl rfl rfl (ok_iconst 91 rfl rfl (by decide) (ok_iload 92 rfl rfl rfl (ok_callVL (M' := M_Mo_lies) (as := [_, _, _]) 93 rfl rfl ml_X12_314 (s_Mo_lies hB ⟨t1, t2⟩ e3 ⟨by omega, by omega⟩ ⟨by omega, by omega⟩) rfl rfl (Nat.le_of_ble_eq_true rfl) ⟨Nat.le_of_ble_eq_true rfl, Nat.le_of_ble_eq_true rfl⟩ rfl (Nat.le_of_ble_eq_true rfl) (fun σ' y hy => ?_)))))))))
          obtain ⟨hs_, hy⟩ := hy
          rw [hs_]; clear hs_ σ'
          refine ok_lload 94 rfl rfl rfl (ok_lsub 95 rfl rfl (by first | omega | (simp [up_if]; omega) | (simp [up_if] at *; omega)) (ok_lst11 96 rfl rfl rfl (ok_iload 97 rfl rfl rfl (ok_if_eq 98 176 rfl rfl rfl (fun h155 => ?_) (fun h155 => ?_)))))
          · refine ok_iconst 109 rfl rfl (by decide) (ok_ist7 110 rfl rfl rfl (ok_iload 111 rfl rfl rfl (ok_lload 112 rfl rfl rfl (ok_lconst (w := 0) 113 rfl rfl rfl (by decide) (ok_lcmp_le 114 115 192 rfl rfl rfl rfl rfl (fun h184 => ?_) (fun h184 => ?_))))))
            · refine ok_iconst 118 rfl rfl (by decide) (ok_callSI (M' := M_Mo_one) (as := [_]) 119 rfl rfl ml_X12_192 (s_Mo_one) ⟨Nat.le_of_ble_eq_true rfl, Nat.le_of_ble_eq_true rfl⟩ rfl (Nat.le_of_ble_eq_true rfl) (fun σ' z1 a1 => ?_))
              obtain ⟨hs_, a1⟩ := a1
              rw [hs_]; clear hs_ σ'
              have q1 : 0 ≤ z1 ∧ z1 ≤ 1 := by rw [a1]; split <;> omega
              refine ok_lload 120 rfl rfl rfl (ok_lconst (w := 0) 121 rfl rfl rfl (by decide) (ok_lcmp_le 122 123 207 rfl rfl rfl rfl rfl (fun h199 => ?_) (fun h199 => ?_)))
              · refine ok_iconst 126 rfl rfl (by decide) (ok_callSI (M' := M_Mo_one) (as := [_]) 127 rfl rfl ml_X12_192 (s_Mo_one) ⟨Nat.le_of_ble_eq_true rfl, Nat.le_of_ble_eq_true rfl⟩ rfl (Nat.le_of_ble_eq_true rfl) (fun σ' z2 a2 => ?_))
                obtain ⟨hs_, a2⟩ := a2
                rw [hs_]; clear hs_ σ'
                have q2 : 0 ≤ z2 ∧ z2 ≤ 1 := by rw [a2]; split <;> omega
                refine ok_iadd 128 rfl rfl (by first | omega | (simp [up_if]; omega) | (simp [up_if] at *; omega)) (ok_iadd 129 rfl rfl (by first | omega | (simp [up_if]; omega) | (simp [up_if] at *; omega)) (ok_ist6 130 rfl rfl rfl (ok_inc8 131 rfl rfl rfl (by first | omega | (simp [up_if]; omega) | (simp [up_if] at *; omega)) (ok_goto 132 113 rfl rfl rfl ?_))))
                exact ok_fg [some (vr 0), some (vi s), some (vi b), some (vi k), some (vl x), none, some (vi _), some (vi _), some (vi (i + 1)), none, none, none, none] ⟨rfl, rfl, rfl, rfl, rfl, rfl, rfl, rfl, trivial⟩ (ih2 _ _ (i + 1) ⟨by omega, by omega, by omega, by omega⟩ (by omega))
              · refine ok_iconst 124 rfl rfl (by decide) (ok_goto 125 208 rfl rfl rfl (ok_callSI (M' := M_Mo_one) (as := [_]) 127 rfl rfl ml_X12_192 (s_Mo_one) ⟨Nat.le_of_ble_eq_true rfl, Nat.le_of_ble_eq_true rfl⟩ rfl (Nat.le_of_ble_eq_true rfl) (fun σ' z2 a2 => ?_)))
                obtain ⟨hs_, a2⟩ := a2
                rw [hs_]; clear hs_ σ'
                have q2 : 0 ≤ z2 ∧ z2 ≤ 1 := by rw [a2]; split <;> omega
                refine ok_iadd 128 rfl rfl (by first | omega | (simp [up_if]; omega) | (simp [up_if] at *; omega)) (ok_iadd 129 rfl rfl (by first | omega | (simp [up_if]; omega) | (simp [up_if] at *; omega)) (ok_ist6 130 rfl rfl rfl (ok_inc8 131 rfl rfl rfl (by first | omega | (simp [up_if]; omega) | (simp [up_if] at *; omega)) (ok_goto 132 113 rfl rfl rfl ?_))))
                exact ok_fg [some (vr 0), some (vi s), some (vi b), some (vi k), some (vl x), none, some (vi _), some (vi _), some (vi (i + 1)), none, none, none, none] ⟨rfl, rfl, rfl, rfl, rfl, rfl, rfl, rfl, trivial⟩ (ih2 _ _ (i + 1) ⟨by omega, by omega, by omega, by omega⟩ (by omega))
            · refine ok_iconst 116 rfl rfl (by decide) (ok_goto 117 193 rfl rfl rfl (ok_callSI (M' := M_Mo_one) (as := [_]) 119 rfl rfl ml_X12_192 (s_Mo_one) ⟨Nat.le_of_ble_eq_true rfl, Nat.le_of_ble_eq_true rfl⟩ rfl (Nat.le_of_ble_eq_true rfl) (fun σ' z1 a1 => ?_)))
              obtain ⟨hs_, a1⟩ := a1
              rw [hs_]; clear hs_ σ'
              have q1 : 0 ≤ z1 ∧ z1 ≤ 1 := by rw [a1]; split <;> omega
              refine ok_lload 120 rfl rfl rfl (ok_lconst (w := 0) 121 rfl rfl rfl (by decide) (ok_lcmp_le 122 123 207 rfl rfl rfl rfl rfl (fun h199 => ?_) (fun h199 => ?_)))
              · refine ok_iconst 126 rfl rfl (by decide) (ok_callSI (M' := M_Mo_one) (as := [_]) 127 rfl rfl ml_X12_192 (s_Mo_one) ⟨Nat.le_of_ble_eq_true rfl, Nat.le_of_ble_eq_true rfl⟩ rfl (Nat.le_of_ble_eq_true rfl) (fun σ' z2 a2 => ?_))
                obtain ⟨hs_, a2⟩ := a2
                rw [hs_]; clear hs_ σ'
                have q2 : 0 ≤ z2 ∧ z2 ≤ 1 := by rw [a2]; split <;> omega
                refine ok_iadd 128 rfl rfl (by first | omega | (simp [up_if]; omega) | (simp [up_if] at *; omega)) (ok_iadd 129 rfl rfl (by first | omega | (simp [up_if]; omega) | (simp [up_if] at *; omega)) (ok_ist6 130 rfl rfl rfl (ok_inc8 131 rfl rfl rfl (by first | omega | (simp [up_if]; omega) | (simp [up_if] at *; omega)) (ok_goto 132 113 rfl rfl rfl ?_))))
                exact ok_fg [some (vr 0), some (vi s), some (vi b), some (vi k), some (vl x), none, some (vi _), some (vi _), some (vi (i + 1)), none, none, none, none] ⟨rfl, rfl, rfl, rfl, rfl, rfl, rfl, rfl, trivial⟩ (ih2 _ _ (i + 1) ⟨by omega, by omega, by omega, by omega⟩ (by omega))
              · refine ok_iconst 124 rfl rfl (by decide) (ok_goto 125 208 rfl rfl rfl (ok_callSI (M' := M_Mo_one) (as := [_]) 127 rfl rfl ml_X12_192 (s_Mo_one) ⟨Nat.le_of_ble_eq_true rfl, Nat.le_of_ble_eq_true rfl⟩ rfl (Nat.le_of_ble_eq_true rfl) (fun σ' z2 a2 => ?_)))
                obtain ⟨hs_, a2⟩ := a2
                rw [hs_]; clear hs_ σ'
                have q2 : 0 ≤ z2 ∧ z2 ≤ 1 := by rw [a2]; split <;> omega
                refine ok_iadd 128 rfl rfl (by first | omega | (simp [up_if]; omega) | (simp [up_if] at *; omega)) (ok_iadd 129 rfl rfl (by first | omega | (simp [up_if]; omega) | (simp [up_if] at *; omega)) (ok_ist6 130 rfl rfl rfl (ok_inc8 131 rfl rfl rfl (by first | omega | (simp [up_if]; omega) | (simp [up_if] at *; omega)) (ok_goto 132 113 rfl rfl rfl ?_))))
                exact ok_fg [some (vr 0), some (vi s), some (vi b), some (vi k), some (vl x), none, some (vi _), some (vi _), some (vi (i + 1)), none, none, none, none] ⟨rfl, rfl, rfl, rfl, rfl, rfl, rfl, rfl, trivial⟩ (ih2 _ _ (i + 1) ⟨by omega, by omega, by omega, by omega⟩ (by omega))
          · refine ok_lload 99 rfl rfl rfl (ok_lconst (w := 0) 100 rfl rfl rfl (by decide) (ok_lcmp_lt 101 102 176 rfl rfl rfl rfl rfl (fun h161 => ?_) (fun h161 => ?_)))
            · refine ok_iconst 109 rfl rfl (by decide) (ok_ist7 110 rfl rfl rfl (ok_iload 111 rfl rfl rfl (ok_lload 112 rfl rfl rfl (ok_lconst (w := 0) 113 rfl rfl rfl (by decide) (ok_lcmp_le 114 115 192 rfl rfl rfl rfl rfl (fun h184 => ?_) (fun h184 => ?_))))))
              · refine ok_iconst 118 rfl rfl (by decide) (ok_callSI (M' := M_Mo_one) (as := [_]) 119 rfl rfl ml_X12_192 (s_Mo_one) ⟨Nat.le_of_ble_eq_true rfl, Nat.le_of_ble_eq_true rfl⟩ rfl (Nat.le_of_ble_eq_true rfl) (fun σ' z1 a1 => ?_))
                obtain ⟨hs_, a1⟩ := a1
                rw [hs_]; clear hs_ σ'
                have q1 : 0 ≤ z1 ∧ z1 ≤ 1 := by rw [a1]; split <;> omega
                refine ok_lload 120 rfl rfl rfl (ok_lconst (w := 0) 121 rfl rfl rfl (by decide) (ok_lcmp_le 122 123 207 rfl rfl rfl rfl rfl (fun h199 => ?_) (fun h199 => ?_)))
                · refine ok_iconst 126 rfl rfl (by decide) (ok_callSI (M' := M_Mo_one) (as := [_]) 127 rfl rfl ml_X12_192 (s_Mo_one) ⟨Nat.le_of_ble_eq_true rfl, Nat.le_of_ble_eq_true rfl⟩ rfl (Nat.le_of_ble_eq_true rfl) (fun σ' z2 a2 => ?_))
                  obtain ⟨hs_, a2⟩ := a2
                  rw [hs_]; clear hs_ σ'
                  have q2 : 0 ≤ z2 ∧ z2 ≤ 1 := by rw [a2]; split <;> omega
                  refine ok_iadd 128 rfl rfl (by first | omega | (simp [up_if]; omega) | (simp [up_if] at *; omega)) (ok_iadd 129 rfl rfl (by first | omega | (simp [up_if]; omega) | (simp [up_if] at *; omega)) (ok_ist6 130 rfl rfl rfl (ok_inc8 131 rfl rfl rfl (by first | omega | (simp [up_if]; omega) | (simp [up_if] at *; omega)) (ok_goto 132 113 rfl rfl rfl ?_))))
                  exact ok_fg [some (vr 0), some (vi s), some (vi b), some (vi k), some (vl x), none, some (vi _), some (vi _), some (vi (i + 1)), none, none, none, none] ⟨rfl, rfl, rfl, rfl, rfl, rfl, rfl, rfl, trivial⟩ (ih2 _ _ (i + 1) ⟨by omega, by omega, by omega, by omega⟩ (by omega))
                · refine ok_iconst 124 rfl rfl (by decide) (ok_goto 125 208 rfl rfl rfl (ok_callSI (M' := M_Mo_one) (as := [_]) 127 rfl rfl ml_X12_192 (s_Mo_one) ⟨Nat.le_of_ble_eq_true rfl, Nat.le_of_ble_eq_true rfl⟩ rfl (Nat.le_of_ble_eq_true rfl) (fun σ' z2 a2 => ?_)))
                  obtain ⟨hs_, a2⟩ := a2
                  rw [hs_]; clear hs_ σ'
                  have q2 : 0 ≤ z2 ∧ z2 ≤ 1 := by rw [a2]; split <;> omega
                  refine ok_iadd 128 rfl rfl (by first | omega | (simp [up_if]; omega) | (simp [up_if] at *; omega)) (ok_iadd 129 rfl rfl (by first | omega | (simp [up_if]; omega) | (simp [up_if] at *; omega)) (ok_ist6 130 rfl rfl rfl (ok_inc8 131 rfl rfl rfl (by first | omega | (simp [up_if]; omega) | (simp [up_if] at *; omega)) (ok_goto 132 113 rfl rfl rfl ?_))))
                  exact ok_fg [some (vr 0), some (vi s), some (vi b), some (vi k), some (vl x), none, some (vi _), some (vi _), some (vi (i + 1)), none, none, none, none] ⟨rfl, rfl, rfl, rfl, rfl, rfl, rfl, rfl, trivial⟩ (ih2 _ _ (i + 1) ⟨by omega, by omega, by omega, by omega⟩ (by omega))
              · refine ok_iconst 116 rfl rfl (by decide) (ok_goto 117 193 rfl rfl rfl (ok_callSI (M' := M_Mo_one) (as := [_]) 119 rfl rfl ml_X12_192 (s_Mo_one) ⟨Nat.le_of_ble_eq_true rfl, Nat.le_of_ble_eq_true rfl⟩ rfl (Nat.le_of_ble_eq_true rfl) (fun σ' z1 a1 => ?_)))
                obtain ⟨hs_, a1⟩ := a1
                rw [hs_]; clear hs_ σ'
                have q1 : 0 ≤ z1 ∧ z1 ≤ 1 := by rw [a1]; split <;> omega
                refine ok_lload 120 rfl rfl rfl (ok_lconst (w := 0) 121 rfl rfl rfl (by decide) (ok_lcmp_le 122 123 207 rfl rfl rfl rfl rfl (fun h199 => ?_) (fun h199 => ?_)))
                · refine ok_iconst 126 rfl rfl (by decide) (ok_callSI (M' := M_Mo_one) (as := [_]) 127 rfl rfl ml_X12_192 (s_Mo_one) ⟨Nat.le_of_ble_eq_true rfl, Nat.le_of_ble_eq_true rfl⟩ rfl (Nat.le_of_ble_eq_true rfl) (fun σ' z2 a2 => ?_))
                  obtain ⟨hs_, a2⟩ := a2
                  rw [hs_]; clear hs_ σ'
                  have q2 : 0 ≤ z2 ∧ z2 ≤ 1 := by rw [a2]; split <;> omega
                  refine ok_iadd 128 rfl rfl (by first | omega | (simp [up_if]; omega) | (simp [up_if] at *; omega)) (ok_iadd 129 rfl rfl (by first | omega | (simp [up_if]; omega) | (simp [up_if] at *; omega)) (ok_ist6 130 rfl rfl rfl (ok_inc8 131 rfl rfl rfl (by first | omega | (simp [up_if]; omega) | (simp [up_if] at *; omega)) (ok_goto 132 113 rfl rfl rfl ?_))))
                  exact ok_fg [some (vr 0), some (vi s), some (vi b), some (vi k), some (vl x), none, some (vi _), some (vi _), some (vi (i + 1)), none, none, none, none] ⟨rfl, rfl, rfl, rfl, rfl, rfl, rfl, rfl, trivial⟩ (ih2 _ _ (i + 1) ⟨by omega, by omega, by omega, by omega⟩ (by omega))
                · refine ok_iconst 124 rfl rfl (by decide) (ok_goto 125 208 rfl rfl rfl (ok_callSI (M' := M_Mo_one) (as := [_]) 127 rfl rfl ml_X12_192 (s_Mo_one) ⟨Nat.le_of_ble_eq_true rfl, Nat.le_of_ble_eq_true rfl⟩ rfl (Nat.le_of_ble_eq_true rfl) (fun σ' z2 a2 => ?_)))
                  obtain ⟨hs_, a2⟩ := a2
                  rw [hs_]; clear hs_ σ'
                  have q2 : 0 ≤ z2 ∧ z2 ≤ 1 := by rw [a2]; split <;> omega
                  refine ok_iadd 128 rfl rfl (by first | omega | (simp [up_if]; omega) | (simp [up_if] at *; omega)) (ok_iadd 129 rfl rfl (by first | omega | (simp [up_if]; omega) | (simp [up_if] at *; omega)) (ok_ist6 130 rfl rfl rfl (ok_inc8 131 rfl rfl rfl (by first | omega | (simp [up_if]; omega) | (simp [up_if] at *; omega)) (ok_goto 132 113 rfl rfl rfl ?_))))
                  exact ok_fg [some (vr 0), some (vi s), some (vi b), some (vi k), some (vl x), none, some (vi _), some (vi _), some (vi (i + 1)), none, none, none, none] ⟨rfl, rfl, rfl, rfl, rfl, rfl, rfl, rfl, trivial⟩ (ih2 _ _ (i + 1) ⟨by omega, by omega, by omega, by omega⟩ (by omega))
            · refine ok_lload 103 rfl rfl rfl (ok_lconst (w := 0) 104 rfl rfl rfl (by decide) (ok_lcmp_lt 105 106 176 rfl rfl rfl rfl rfl (fun h168 => ?_) (fun h168 => ?_)))
              · refine ok_iconst 109 rfl rfl (by decide) (ok_ist7 110 rfl rfl rfl (ok_iload 111 rfl rfl rfl (ok_lload 112 rfl rfl rfl (ok_lconst (w := 0) 113 rfl rfl rfl (by decide) (ok_lcmp_le 114 115 192 rfl rfl rfl rfl rfl (fun h184 => ?_) (fun h184 => ?_))))))
                · refine ok_iconst 118 rfl rfl (by decide) (ok_callSI (M' := M_Mo_one) (as := [_]) 119 rfl rfl ml_X12_192 (s_Mo_one) ⟨Nat.le_of_ble_eq_true rfl, Nat.le_of_ble_eq_true rfl⟩ rfl (Nat.le_of_ble_eq_true rfl) (fun σ' z1 a1 => ?_))
                  obtain ⟨hs_, a1⟩ := a1
                  rw [hs_]; clear hs_ σ'
                  have q1 : 0 ≤ z1 ∧ z1 ≤ 1 := by rw [a1]; split <;> omega
                  refine ok_lload 120 rfl rfl rfl (ok_lconst (w := 0) 121 rfl rfl rfl (by decide) (ok_lcmp_le 122 123 207 rfl rfl rfl rfl rfl (fun h199 => ?_) (fun h199 => ?_)))
                  · refine ok_iconst 126 rfl rfl (by decide) (ok_callSI (M' := M_Mo_one) (as := [_]) 127 rfl rfl ml_X12_192 (s_Mo_one) ⟨Nat.le_of_ble_eq_true rfl, Nat.le_of_ble_eq_true rfl⟩ rfl (Nat.le_of_ble_eq_true rfl) (fun σ' z2 a2 => ?_))
                    obtain ⟨hs_, a2⟩ := a2
                    rw [hs_]; clear hs_ σ'
                    have q2 : 0 ≤ z2 ∧ z2 ≤ 1 := by rw [a2]; split <;> omega
                    refine ok_iadd 128 rfl rfl (by first | omega | (simp [up_if]; omega) | (simp [up_if] at *; omega)) (ok_iadd 129 rfl rfl (by first | omega | (simp [up_if]; omega) | (simp [up_if] at *; omega)) (ok_ist6 130 rfl rfl rfl (ok_inc8 131 rfl rfl rfl (by first | omega | (simp [up_if]; omega) | (simp [up_if] at *; omega)) (ok_goto 132 113 rfl rfl rfl ?_))))
                    exact ok_fg [some (vr 0), some (vi s), some (vi b), some (vi k), some (vl x), none, some (vi _), some (vi _), some (vi (i + 1)), none, none, none, none] ⟨rfl, rfl, rfl, rfl, rfl, rfl, rfl, rfl, trivial⟩ (ih2 _ _ (i + 1) ⟨by omega, by omega, by omega, by omega⟩ (by omega))
                  · refine ok_iconst 124 rfl rfl (by decide) (ok_goto 125 208 rfl rfl rfl (ok_callSI (M' := M_Mo_one) (as := [_]) 127 rfl rfl ml_X12_192 (s_Mo_one) ⟨Nat.le_of_ble_eq_true rfl, Nat.le_of_ble_eq_true rfl⟩ rfl (Nat.le_of_ble_eq_true rfl) (fun σ' z2 a2 => ?_)))
                    obtain ⟨hs_, a2⟩ := a2
                    rw [hs_]; clear hs_ σ'
                    have q2 : 0 ≤ z2 ∧ z2 ≤ 1 := by rw [a2]; split <;> omega
                    refine ok_iadd 128 rfl rfl (by first | omega | (simp [up_if]; omega) | (simp [up_if] at *; omega)) (ok_iadd 129 rfl rfl (by first | omega | (simp [up_if]; omega) | (simp [up_if] at *; omega)) (ok_ist6 130 rfl rfl rfl (ok_inc8 131 rfl rfl rfl (by first | omega | (simp [up_if]; omega) | (simp [up_if] at *; omega)) (ok_goto 132 113 rfl rfl rfl ?_))))
                    exact ok_fg [some (vr 0), some (vi s), some (vi b), some (vi k), some (vl x), none, some (vi _), some (vi _), some (vi (i + 1)), none, none, none, none] ⟨rfl, rfl, rfl, rfl, rfl, rfl, rfl, rfl, trivial⟩ (ih2 _ _ (i + 1) ⟨by omega, by omega, by omega, by omega⟩ (by omega))
                · refine ok_iconst 116 rfl rfl (by decide) (ok_goto 117 193 rfl rfl rfl (ok_callSI (M' := M_Mo_one) (as := [_]) 119 rfl rfl ml_X12_192 (s_Mo_one) ⟨Nat.le_of_ble_eq_true rfl, Nat.le_of_ble_eq_true rfl⟩ rfl (Nat.le_of_ble_eq_true rfl) (fun σ' z1 a1 => ?_)))
                  obtain ⟨hs_, a1⟩ := a1
                  rw [hs_]; clear hs_ σ'
                  have q1 : 0 ≤ z1 ∧ z1 ≤ 1 := by rw [a1]; split <;> omega
                  refine ok_lload 120 rfl rfl rfl (ok_lconst (w := 0) 121 rfl rfl rfl (by decide) (ok_lcmp_le 122 123 207 rfl rfl rfl rfl rfl (fun h199 => ?_) (fun h199 => ?_)))
                  · refine ok_iconst 126 rfl rfl (by decide) (ok_callSI (M' := M_Mo_one) (as := [_]) 127 rfl rfl ml_X12_192 (s_Mo_one) ⟨Nat.le_of_ble_eq_true rfl, Nat.le_of_ble_eq_true rfl⟩ rfl (Nat.le_of_ble_eq_true rfl) (fun σ' z2 a2 => ?_))
                    obtain ⟨hs_, a2⟩ := a2
                    rw [hs_]; clear hs_ σ'
                    have q2 : 0 ≤ z2 ∧ z2 ≤ 1 := by rw [a2]; split <;> omega
                    refine ok_iadd 128 rfl rfl (by first | omega | (simp [up_if]; omega) | (simp [up_if] at *; omega)) (ok_iadd 129 rfl rfl (by first | omega | (simp [up_if]; omega) | (simp [up_if] at *; omega)) (ok_ist6 130 rfl rfl rfl (ok_inc8 131 rfl rfl rfl (by first | omega | (simp [up_if]; omega) | (simp [up_if] at *; omega)) (ok_goto 132 113 rfl rfl rfl ?_))))
                    exact ok_fg [some (vr 0), some (vi s), some (vi b), some (vi k), some (vl x), none, some (vi _), some (vi _), some (vi (i + 1)), none, none, none, none] ⟨rfl, rfl, rfl, rfl, rfl, rfl, rfl, rfl, trivial⟩ (ih2 _ _ (i + 1) ⟨by omega, by omega, by omega, by omega⟩ (by omega))
                  · refine ok_iconst 124 rfl rfl (by decide) (ok_goto 125 208 rfl rfl rfl (ok_callSI (M' := M_Mo_one) (as := [_]) 127 rfl rfl ml_X12_192 (s_Mo_one) ⟨Nat.le_of_ble_eq_true rfl, Nat.le_of_ble_eq_true rfl⟩ rfl (Nat.le_of_ble_eq_true rfl) (fun σ' z2 a2 => ?_)))
                    obtain ⟨hs_, a2⟩ := a2
                    rw [hs_]; clear hs_ σ'
                    have q2 : 0 ≤ z2 ∧ z2 ≤ 1 := by rw [a2]; split <;> omega
                    refine ok_iadd 128 rfl rfl (by first | omega | (simp [up_if]; omega) | (simp [up_if] at *; omega)) (ok_iadd 129 rfl rfl (by first | omega | (simp [up_if]; omega) | (simp [up_if] at *; omega)) (ok_ist6 130 rfl rfl rfl (ok_inc8 131 rfl rfl rfl (by first | omega | (simp [up_if]; omega) | (simp [up_if] at *; omega)) (ok_goto 132 113 rfl rfl rfl ?_))))
                    exact ok_fg [some (vr 0), some (vi s), some (vi b), some (vi k), some (vl x), none, some (vi _), some (vi _), some (vi (i + 1)), none, none, none, none] ⟨rfl, rfl, rfl, rfl, rfl, rfl, rfl, rfl, trivial⟩ (ih2 _ _ (i + 1) ⟨by omega, by omega, by omega, by omega⟩ (by omega))
              · refine ok_iconst 107 rfl rfl (by decide) (ok_goto 108 177 rfl rfl rfl (ok_ist7 110 rfl rfl rfl (ok_iload 111 rfl rfl rfl (ok_lload 112 rfl rfl rfl (ok_lconst (w := 0) 113 rfl rfl rfl (by decide) (ok_lcmp_le 114 115 192 rfl rfl rfl rfl rfl (fun h184 => ?_) (fun h184 => ?_)))))))
                · refine ok_iconst 118 rfl rfl (by decide) (ok_callSI (M' := M_Mo_one) (as := [_]) 119 rfl rfl ml_X12_192 (s_Mo_one) ⟨Nat.le_of_ble_eq_true rfl, Nat.le_of_ble_eq_true rfl⟩ rfl (Nat.le_of_ble_eq_true rfl) (fun σ' z1 a1 => ?_))
                  obtain ⟨hs_, a1⟩ := a1
                  rw [hs_]; clear hs_ σ'
                  have q1 : 0 ≤ z1 ∧ z1 ≤ 1 := by rw [a1]; split <;> omega
                  refine ok_lload 120 rfl rfl rfl (ok_lconst (w := 0) 121 rfl rfl rfl (by decide) (ok_lcmp_le 122 123 207 rfl rfl rfl rfl rfl (fun h199 => ?_) (fun h199 => ?_)))
                  · refine ok_iconst 126 rfl rfl (by decide) (ok_callSI (M' := M_Mo_one) (as := [_]) 127 rfl rfl ml_X12_192 (s_Mo_one) ⟨Nat.le_of_ble_eq_true rfl, Nat.le_of_ble_eq_true rfl⟩ rfl (Nat.le_of_ble_eq_true rfl) (fun σ' z2 a2 => ?_))
                    obtain ⟨hs_, a2⟩ := a2
                    rw [hs_]; clear hs_ σ'
                    have q2 : 0 ≤ z2 ∧ z2 ≤ 1 := by rw [a2]; split <;> omega
                    refine ok_iadd 128 rfl rfl (by first | omega | (simp [up_if]; omega) | (simp [up_if] at *; omega)) (ok_iadd 129 rfl rfl (by first | omega | (simp [up_if]; omega) | (simp [up_if] at *; omega)) (ok_ist6 130 rfl rfl rfl (ok_inc8 131 rfl rfl rfl (by first | omega | (simp [up_if]; omega) | (simp [up_if] at *; omega)) (ok_goto 132 113 rfl rfl rfl ?_))))
                    exact ok_fg [some (vr 0), some (vi s), some (vi b), some (vi k), some (vl x), none, some (vi _), some (vi _), some (vi (i + 1)), none, none, none, none] ⟨rfl, rfl, rfl, rfl, rfl, rfl, rfl, rfl, trivial⟩ (ih2 _ _ (i + 1) ⟨by omega, by omega, by omega, by omega⟩ (by omega))
                  · refine ok_iconst 124 rfl rfl (by decide) (ok_goto 125 208 rfl rfl rfl (ok_callSI (M' := M_Mo_one) (as := [_]) 127 rfl rfl ml_X12_192 (s_Mo_one) ⟨Nat.le_of_ble_eq_true rfl, Nat.le_of_ble_eq_true rfl⟩ rfl (Nat.le_of_ble_eq_true rfl) (fun σ' z2 a2 => ?_)))
                    obtain ⟨hs_, a2⟩ := a2
                    rw [hs_]; clear hs_ σ'
                    have q2 : 0 ≤ z2 ∧ z2 ≤ 1 := by rw [a2]; split <;> omega
                    refine ok_iadd 128 rfl rfl (by first | omega | (simp [up_if]; omega) | (simp [up_if] at *; omega)) (ok_iadd 129 rfl rfl (by first | omega | (simp [up_if]; omega) | (simp [up_if] at *; omega)) (ok_ist6 130 rfl rfl rfl (ok_inc8 131 rfl rfl rfl (by first | omega | (simp [up_if]; omega) | (simp [up_if] at *; omega)) (ok_goto 132 113 rfl rfl rfl ?_))))
                    exact ok_fg [some (vr 0), some (vi s), some (vi b), some (vi k), some (vl x), none, some (vi _), some (vi _), some (vi (i + 1)), none, none, none, none] ⟨rfl, rfl, rfl, rfl, rfl, rfl, rfl, rfl, trivial⟩ (ih2 _ _ (i + 1) ⟨by omega, by omega, by omega, by omega⟩ (by omega))
                · refine ok_iconst 116 rfl rfl (by decide) (ok_goto 117 193 rfl rfl rfl (ok_callSI (M' := M_Mo_one) (as := [_]) 119 rfl rfl ml_X12_192 (s_Mo_one) ⟨Nat.le_of_ble_eq_true rfl, Nat.le_of_ble_eq_true rfl⟩ rfl (Nat.le_of_ble_eq_true rfl) (fun σ' z1 a1 => ?_)))
                  obtain ⟨hs_, a1⟩ := a1
                  rw [hs_]; clear hs_ σ'
                  have q1 : 0 ≤ z1 ∧ z1 ≤ 1 := by rw [a1]; split <;> omega
                  refine ok_lload 120 rfl rfl rfl (ok_lconst (w := 0) 121 rfl rfl rfl (by decide) (ok_lcmp_le 122 123 207 rfl rfl rfl rfl rfl (fun h199 => ?_) (fun h199 => ?_)))
                  · refine ok_iconst 126 rfl rfl (by decide) (ok_callSI (M' := M_Mo_one) (as := [_]) 127 rfl rfl ml_X12_192 (s_Mo_one) ⟨Nat.le_of_ble_eq_true rfl, Nat.le_of_ble_eq_true rfl⟩ rfl (Nat.le_of_ble_eq_true rfl) (fun σ' z2 a2 => ?_))
                    obtain ⟨hs_, a2⟩ := a2
                    rw [hs_]; clear hs_ σ'
                    have q2 : 0 ≤ z2 ∧ z2 ≤ 1 := by rw [a2]; split <;> omega
                    refine ok_iadd 128 rfl rfl (by first | omega | (simp [up_if]; omega) | (simp [up_if] at *; omega)) (ok_iadd 129 rfl rfl (by first | omega | (simp [up_if]; omega) | (simp [up_if] at *; omega)) (ok_ist6 130 rfl rfl rfl (ok_inc8 131 rfl rfl rfl (by first | omega | (simp [up_if]; omega) | (simp [up_if] at *; omega)) (ok_goto 132 113 rfl rfl rfl ?_))))
                    exact ok_fg [some (vr 0), some (vi s), some (vi b), some (vi k), some (vl x), none, some (vi _), some (vi _), some (vi (i + 1)), none, none, none, none] ⟨rfl, rfl, rfl, rfl, rfl, rfl, rfl, rfl, trivial⟩ (ih2 _ _ (i + 1) ⟨by omega, by omega, by omega, by omega⟩ (by omega))
                  · refine ok_iconst 124 rfl rfl (by decide) (ok_goto 125 208 rfl rfl rfl (ok_callSI (M' := M_Mo_one) (as := [_]) 127 rfl rfl ml_X12_192 (s_Mo_one) ⟨Nat.le_of_ble_eq_true rfl, Nat.le_of_ble_eq_true rfl⟩ rfl (Nat.le_of_ble_eq_true rfl) (fun σ' z2 a2 => ?_)))
                    obtain ⟨hs_, a2⟩ := a2
                    rw [hs_]; clear hs_ σ'
                    have q2 : 0 ≤ z2 ∧ z2 ≤ 1 := by rw [a2]; split <;> omega
                    refine ok_iadd 128 rfl rfl (by first | omega | (simp [up_if]; omega) | (simp [up_if] at *; omega)) (ok_iadd 129 rfl rfl (by first | omega | (simp [up_if]; omega) | (simp [up_if] at *; omega)) (ok_ist6 130 rfl rfl rfl (ok_inc8 131 rfl rfl rfl (by first | omega | (simp [up_if]; omega) | (simp [up_if] at *; omega)) (ok_goto 132 113 rfl rfl rfl ?_))))
                    exact ok_fg [some (vr 0), some (vi s), some (vi b), some (vi k), some (vl x), none, some (vi _), some (vi _), some (vi (i + 1)), none, none, none, none] ⟨rfl, rfl, rfl, rfl, rfl, rfl, rfl, rfl, trivial⟩ (ih2 _ _ (i + 1) ⟨by omega, by omega, by omega, by omega⟩ (by omega))
      refine ok_iload_n 40 rfl rfl rfl (ok_bipush 41 rfl rfl (by decide) (by decide) (ok_icmp_ge 42 246 rfl rfl rfl (fun h67 => ?_) (fun h67 => ?_)))
      · refine ok_iload_n 145 rfl rfl rfl (ok_iret 146 rfl rfl rfl ?_)
        exact ⟨_, rfl, rfl⟩
      · refine ok_iload_n 43 rfl rfl rfl (ok_iconst 44 rfl rfl (by decide) (ok_icmp_ge 45 85 rfl rfl rfl (fun h72 => ?_) (fun h72 => ?_)))
        · refine ok_aload_n 52 rfl rfl rfl (ok_iload_n 53 rfl rfl rfl (ok_iconst 54 rfl rfl (by decide) (ok_iconst 55 rfl rfl (by decide) (ok_callVL (M' := M_Mo_lies) (as := [_, _, _]) 56 rfl rfl ml_X12_314 (s_Mo_lies hB ⟨t1, t2⟩ e3 ⟨by omega, by omega⟩ ⟨by omega, by omega⟩) rfl rfl (Nat.le_of_ble_eq_true rfl) ⟨Nat.le_of_ble_eq_true rfl, Nat.le_of_ble_eq_true rfl⟩ rfl (Nat.le_of_ble_eq_true rfl) (fun σ' y hy => ?_)))))
          obtain ⟨hs_, hy⟩ := hy
          rw [hs_]; clear hs_ σ'
          refine ok_aload_n 57 rfl rfl rfl (ok_iload_n 58 rfl rfl rfl (ok_iload_n 59 rfl rfl rfl (ok_iconst 60 rfl rfl (by decide) (ok_isub 61 rfl rfl (by first | omega | (simp [up_if]; omega) | (simp [up_if] at *; omega)) (ok_iconst 62 rfl rfl (by decide) (ok_callVL (M' := M_Mo_lies) (as := [_, _, _]) 63 rfl rfl ml_X12_314 (s_Mo_lies hB ⟨t1, t2⟩ e3 ⟨by omega, by omega⟩ ⟨by omega, by omega⟩) rfl rfl (Nat.le_of_ble_eq_true rfl) ⟨Nat.le_of_ble_eq_true rfl, Nat.le_of_ble_eq_true rfl⟩ rfl (Nat.le_of_ble_eq_true rfl) (fun σ' y hy => ?_)))))))
          obtain ⟨hs_, hy⟩ := hy
          rw [hs_]; clear hs_ σ'
          refine ok_lsub 64 rfl rfl (by first | omega | (simp [up_if]; omega) | (simp [up_if] at *; omega)) ?_
          exact tail _ (by omega) (by omega) (by omega)
        · refine ok_aload_n 46 rfl rfl rfl (ok_iload_n 47 rfl rfl rfl (ok_iconst 48 rfl rfl (by decide) (ok_iload_n 49 rfl rfl rfl (ok_callVL (M' := M_Mo_lies) (as := [_, _, _]) 50 rfl rfl ml_X12_314 (s_Mo_lies hB ⟨t1, t2⟩ e3 ⟨by omega, by omega⟩ ⟨by omega, by omega⟩) rfl rfl (Nat.le_of_ble_eq_true rfl) ⟨Nat.le_of_ble_eq_true rfl, Nat.le_of_ble_eq_true rfl⟩ rfl (Nat.le_of_ble_eq_true rfl) (fun σ' y hy => ?_)))))
          obtain ⟨hs_, hy⟩ := hy
          rw [hs_]; clear hs_ σ'
          refine ok_goto 51 102 rfl rfl rfl ?_
          exact tail _ (by omega) (by omega) (by omega)
    · refine ok_aload_n 14 rfl rfl rfl (ok_iload_n 15 rfl rfl rfl (ok_iconst 16 rfl rfl (by decide) (ok_iconst 17 rfl rfl (by decide) (ok_callVI (M' := M_Mo_at) (as := [_, _, _]) 18 rfl rfl ml_X12_107 (s_Mo_at hB ⟨t1, t2⟩ ⟨by omega, by omega⟩ ⟨by omega, by omega⟩) rfl rfl (Nat.le_of_ble_eq_true rfl) ⟨Nat.le_of_ble_eq_true rfl, Nat.le_of_ble_eq_true rfl⟩ rfl (Nat.le_of_ble_eq_true rfl) (fun σ' z hz => ?_)))))
      rw [hz.1, hz.2]
      clear hz z σ'
      refine ok_if_le 19 36 rfl rfl rfl (fun h29 => ?_) (fun h29 => ?_)
      · refine ok_iconst 22 rfl rfl (by decide) (ok_callSI (M' := M_Mo_one) (as := [_]) 23 rfl rfl ml_X12_192 (s_Mo_one) ⟨Nat.le_of_ble_eq_true rfl, Nat.le_of_ble_eq_true rfl⟩ rfl (Nat.le_of_ble_eq_true rfl) (fun σ' z1 a1 => ?_))
        obtain ⟨hs_, a1⟩ := a1
        rw [hs_]; clear hs_ σ'
        have q1 : 0 ≤ z1 ∧ z1 ≤ 1 := by rw [a1]; split <;> omega
        refine ok_aload_n 24 rfl rfl rfl (ok_iload_n 25 rfl rfl rfl (ok_iconst 26 rfl rfl (by decide) (ok_iconst 27 rfl rfl (by decide) (ok_callVI (M' := M_Mo_at) (as := [_, _, _]) 28 rfl rfl ml_X12_107 (s_Mo_at hB ⟨t1, t2⟩ ⟨by omega, by omega⟩ ⟨by omega, by omega⟩) rfl rfl (Nat.le_of_ble_eq_true rfl) ⟨Nat.le_of_ble_eq_true rfl, Nat.le_of_ble_eq_true rfl⟩ rfl (Nat.le_of_ble_eq_true rfl) (fun σ' z hz => ?_)))))
        rw [hz.1, hz.2]
        clear hz z σ'
        refine ok_if_le 29 54 rfl rfl rfl (fun h47 => ?_) (fun h47 => ?_)
        · refine ok_iconst 32 rfl rfl (by decide) (ok_callSI (M' := M_Mo_one) (as := [_]) 33 rfl rfl ml_X12_192 (s_Mo_one) ⟨Nat.le_of_ble_eq_true rfl, Nat.le_of_ble_eq_true rfl⟩ rfl (Nat.le_of_ble_eq_true rfl) (fun σ' z2 a2 => ?_))
          obtain ⟨hs_, a2⟩ := a2
          rw [hs_]; clear hs_ σ'
          have q2 : 0 ≤ z2 ∧ z2 ≤ 1 := by rw [a2]; split <;> omega
          refine ok_iadd 34 rfl rfl (by first | omega | (simp [up_if]; omega) | (simp [up_if] at *; omega)) (ok_iret 35 rfl rfl rfl ?_)
          exact ⟨_, rfl, rfl⟩
        · refine ok_iconst 30 rfl rfl (by decide) (ok_goto 31 55 rfl rfl rfl (ok_callSI (M' := M_Mo_one) (as := [_]) 33 rfl rfl ml_X12_192 (s_Mo_one) ⟨Nat.le_of_ble_eq_true rfl, Nat.le_of_ble_eq_true rfl⟩ rfl (Nat.le_of_ble_eq_true rfl) (fun σ' z2 a2 => ?_)))
          obtain ⟨hs_, a2⟩ := a2
          rw [hs_]; clear hs_ σ'
          have q2 : 0 ≤ z2 ∧ z2 ≤ 1 := by rw [a2]; split <;> omega
          refine ok_iadd 34 rfl rfl (by first | omega | (simp [up_if]; omega) | (simp [up_if] at *; omega)) (ok_iret 35 rfl rfl rfl ?_)
          exact ⟨_, rfl, rfl⟩
      · refine ok_iconst 20 rfl rfl (by decide) (ok_goto 21 37 rfl rfl rfl (ok_callSI (M' := M_Mo_one) (as := [_]) 23 rfl rfl ml_X12_192 (s_Mo_one) ⟨Nat.le_of_ble_eq_true rfl, Nat.le_of_ble_eq_true rfl⟩ rfl (Nat.le_of_ble_eq_true rfl) (fun σ' z1 a1 => ?_)))
        obtain ⟨hs_, a1⟩ := a1
        rw [hs_]; clear hs_ σ'
        have q1 : 0 ≤ z1 ∧ z1 ≤ 1 := by rw [a1]; split <;> omega
        refine ok_aload_n 24 rfl rfl rfl (ok_iload_n 25 rfl rfl rfl (ok_iconst 26 rfl rfl (by decide) (ok_iconst 27 rfl rfl (by decide) (ok_callVI (M' := M_Mo_at) (as := [_, _, _]) 28 rfl rfl ml_X12_107 (s_Mo_at hB ⟨t1, t2⟩ ⟨by omega, by omega⟩ ⟨by omega, by omega⟩) rfl rfl (Nat.le_of_ble_eq_true rfl) ⟨Nat.le_of_ble_eq_true rfl, Nat.le_of_ble_eq_true rfl⟩ rfl (Nat.le_of_ble_eq_true rfl) (fun σ' z hz => ?_)))))
        rw [hz.1, hz.2]
        clear hz z σ'
        refine ok_if_le 29 54 rfl rfl rfl (fun h47 => ?_) (fun h47 => ?_)
        · refine ok_iconst 32 rfl rfl (by decide) (ok_callSI (M' := M_Mo_one) (as := [_]) 33 rfl rfl ml_X12_192 (s_Mo_one) ⟨Nat.le_of_ble_eq_true rfl, Nat.le_of_ble_eq_true rfl⟩ rfl (Nat.le_of_ble_eq_true rfl) (fun σ' z2 a2 => ?_))
          obtain ⟨hs_, a2⟩ := a2
          rw [hs_]; clear hs_ σ'
          have q2 : 0 ≤ z2 ∧ z2 ≤ 1 := by rw [a2]; split <;> omega
          refine ok_iadd 34 rfl rfl (by first | omega | (simp [up_if]; omega) | (simp [up_if] at *; omega)) (ok_iret 35 rfl rfl rfl ?_)
          exact ⟨_, rfl, rfl⟩
        · refine ok_iconst 30 rfl rfl (by decide) (ok_goto 31 55 rfl rfl rfl (ok_callSI (M' := M_Mo_one) (as := [_]) 33 rfl rfl ml_X12_192 (s_Mo_one) ⟨Nat.le_of_ble_eq_true rfl, Nat.le_of_ble_eq_true rfl⟩ rfl (Nat.le_of_ble_eq_true rfl) (fun σ' z2 a2 => ?_)))
          obtain ⟨hs_, a2⟩ := a2
          rw [hs_]; clear hs_ σ'
          have q2 : 0 ≤ z2 ∧ z2 ≤ 1 := by rw [a2]; split <;> omega
          refine ok_iadd 34 rfl rfl (by first | omega | (simp [up_if]; omega) | (simp [up_if] at *; omega)) (ok_iret 35 rfl rfl rfl ?_)
          exact ⟨_, rfl, rfl⟩
  · refine ok_iconst 6 rfl rfl (by decide) (ok_iret 7 rfl rfl rfl ?_)
    exact ⟨_, rfl, rfl⟩
theorem cnt_bd (σ : eS) (s : Int) (hn : 0 ≤ σ 1 s ∧ σ 1 s ≤ 8) : 0 ≤ cntB σ s ∧ cntB σ s ≤ 64 := by
  have q := sq8 hn
  have := sm_bd (f := fun k => if 0 < σ 3 (64 * s + k) then (1 : Int) else 0) (B := 1) (by decide) (n := (σ 1 s * σ 1 s).toNat) (fun k _ _ => by split <;> omega)
  unfold cntB
  omega
theorem s_Mo_bound {σ : eS} {s w : Int} (hB : iB1 σ) : MtI shB M_Mo_bound [vr 0, vi s, vi w] σ (fun σ' z => fr (fun c _ => c = 8) σ σ') := by
  refine Mt.of okM_Mo_bound (Nat.le_of_ble_eq_true rfl) (fun hk hg => ?_)
  refine ok_aload_n 0 rfl rfl rfl (ok_iload_n 1 rfl rfl rfl (ok_callVI (M' := M_Mo_isEven) (as := [_]) 2 rfl rfl ml_X12_202 (s_Mo_isEven hB) rfl rfl (Nat.le_of_ble_eq_true rfl) ⟨Nat.le_of_ble_eq_true rfl, Nat.le_of_ble_eq_true rfl⟩ rfl (Nat.le_of_ble_eq_true rfl) (fun σ' z1 a1 => ?_)))
  obtain ⟨hs_, a1⟩ := a1
  rw [hs_]; clear hs_ σ'
  refine ok_if_eq 3 33 rfl rfl rfl (fun h5 => ?_) (fun h5 => ?_)
  · refine ok_iconst 19 rfl rfl (by decide) (ok_iret 20 rfl rfl rfl ?_)
    exact ⟨_, rfl, fr.rf⟩
  · refine ok_iload_n 4 rfl rfl rfl (ok_i2l 5 rfl rfl (ok_lconst (w := 0) 6 rfl rfl rfl (by decide) (ok_lconst (w := 1) 7 rfl rfl rfl (by decide) (ok_callSI (M' := M_Mo_isIn) (as := [_, _, _]) 8 rfl rfl ml_X12_99 (s_Mo_isIn_r) ⟨Nat.le_of_ble_eq_true rfl, Nat.le_of_ble_eq_true rfl⟩ rfl (Nat.le_of_ble_eq_true rfl) (fun σ' z2 a2 => ?_)))))
    obtain ⟨hs_, a2⟩ := a2
    rw [hs_]; clear hs_ σ'
    refine ok_if_eq 9 33 rfl rfl rfl (fun h15 => ?_) (fun h15 => ?_)
    · refine ok_iconst 19 rfl rfl (by decide) (ok_iret 20 rfl rfl rfl ?_)
      exact ⟨_, rfl, fr.rf⟩
    · obtain ⟨u1, u2, u3⟩ := (yes1 a1 h5).1
      refine ok_iload_n 10 rfl rfl rfl (ok_iconst 11 rfl rfl (by decide) (ok_icmp_ne 12 35 rfl rfl rfl (fun h20 => ?_) (fun h20 => ?_)))
      · obtain ⟨ht, -⟩ := yes1 a1 h5
        obtain ⟨t1, t2, t3⟩ := id ht
        have tn := hB.1 s t1 t2
        have cb := cnt_bd σ s ⟨by omega, by omega⟩
        refine ok_iload_n 21 rfl rfl rfl (ok_if_ne 22 64 rfl rfl rfl (fun h36 => ?_) (fun h36 => ?_))
        · refine ok_aload_n 40 rfl rfl rfl (ok_iload_n 41 rfl rfl rfl (ok_callVI (M' := M_Mo_fewest) (as := [_]) 42 rfl rfl ml_X12_311 (s_Mo_fewest hB ht (by have := yes1 a2 h15; omega)) rfl rfl (Nat.le_of_ble_eq_true rfl) ⟨Nat.le_of_ble_eq_true rfl, Nat.le_of_ble_eq_true rfl⟩ rfl (Nat.le_of_ble_eq_true rfl) (fun σ' z hz => ?_)))
          refine ok_iret 43 rfl rfl rfl ?_
          first | exact ⟨_, rfl, hz.1⟩ | (rw [hz]; exact ⟨_, rfl, fr.rf⟩)
        · refine ok_aload_n 23 rfl rfl rfl (ok_iload_n 24 rfl rfl rfl (ok_callVI (M' := M_Mo_aboveNought) (as := [_]) 25 rfl rfl ml_X12_205 (s_Mo_aboveNought hB ⟨t1, t2⟩) rfl rfl (Nat.le_of_ble_eq_true rfl) ⟨Nat.le_of_ble_eq_true rfl, Nat.le_of_ble_eq_true rfl⟩ rfl (Nat.le_of_ble_eq_true rfl) (fun σ' z hz => ?_)))
          rw [hz.1, hz.2]
          clear hz z σ'
          refine ok_iconst 26 rfl rfl (by decide) (ok_aload_n 27 rfl rfl rfl (ok_getR 28 rfl rfl fl_X12_7 rfl rfl (ok_iload_n 29 rfl rfl rfl (ok_iald 30 rfl rfl rfl (by first | omega | (simp [up_if]; omega) | (simp [up_if] at *; omega)) (ok_imul 31 rfl rfl (by first | omega | (simp [up_if]; omega) | (simp [up_if] at *; omega)) (ok_isub 32 rfl rfl (by first | omega | (simp [up_if]; omega) | (simp [up_if] at *; omega)) (ok_aload_n 33 rfl rfl rfl (ok_iload_n 34 rfl rfl rfl (ok_callVI (M' := M_Mo_groupsOf) (as := [_]) 35 rfl rfl ml_X12_208 (s_Mo_groupsOf hB ⟨t1, t2⟩) rfl rfl (Nat.le_of_ble_eq_true rfl) ⟨Nat.le_of_ble_eq_true rfl, Nat.le_of_ble_eq_true rfl⟩ rfl (Nat.le_of_ble_eq_true rfl) (fun σ' z hz => ?_))))))))))
          have hz1 := hz.2
          refine ok_iadd 36 rfl rfl (by first | omega | (simp [up_if]; omega) | (simp [up_if] at *; omega)) (ok_iconst 37 rfl rfl (by decide) (ok_iadd 38 rfl rfl (by first | omega | (simp [up_if]; omega) | (simp [up_if] at *; omega)) (ok_goto 39 69 rfl rfl rfl (ok_iret 43 rfl rfl rfl ?_))))
          first | exact ⟨_, rfl, hz.1⟩ | (rw [hz]; exact ⟨_, rfl, fr.rf⟩)
      · refine ok_aload_n 13 rfl rfl rfl (ok_getR 14 rfl rfl fl_X12_7 rfl rfl (ok_iload_n 15 rfl rfl rfl (ok_iald 16 rfl rfl rfl (by first | omega | (simp [up_if]; omega) | (simp [up_if] at *; omega)) (ok_iconst 17 rfl rfl (by decide) (ok_icmp_le 18 35 rfl rfl rfl (fun h30 => ?_) (fun h30 => ?_))))))
        · obtain ⟨ht, -⟩ := yes1 a1 h5
          obtain ⟨t1, t2, t3⟩ := id ht
          have tn := hB.1 s t1 t2
          have cb := cnt_bd σ s ⟨by omega, by omega⟩
          refine ok_iload_n 21 rfl rfl rfl (ok_if_ne 22 64 rfl rfl rfl (fun h36 => ?_) (fun h36 => ?_))
          · refine ok_aload_n 40 rfl rfl rfl (ok_iload_n 41 rfl rfl rfl (ok_callVI (M' := M_Mo_fewest) (as := [_]) 42 rfl rfl ml_X12_311 (s_Mo_fewest hB ht (by have := yes1 a2 h15; omega)) rfl rfl (Nat.le_of_ble_eq_true rfl) ⟨Nat.le_of_ble_eq_true rfl, Nat.le_of_ble_eq_true rfl⟩ rfl (Nat.le_of_ble_eq_true rfl) (fun σ' z hz => ?_)))
            refine ok_iret 43 rfl rfl rfl ?_
            first | exact ⟨_, rfl, hz.1⟩ | (rw [hz]; exact ⟨_, rfl, fr.rf⟩)
          · refine ok_aload_n 23 rfl rfl rfl (ok_iload_n 24 rfl rfl rfl (ok_callVI (M' := M_Mo_aboveNought) (as := [_]) 25 rfl rfl ml_X12_205 (s_Mo_aboveNought hB ⟨t1, t2⟩) rfl rfl (Nat.le_of_ble_eq_true rfl) ⟨Nat.le_of_ble_eq_true rfl, Nat.le_of_ble_eq_true rfl⟩ rfl (Nat.le_of_ble_eq_true rfl) (fun σ' z hz => ?_)))
            rw [hz.1, hz.2]
            clear hz z σ'
            refine ok_iconst 26 rfl rfl (by decide) (ok_aload_n 27 rfl rfl rfl (ok_getR 28 rfl rfl fl_X12_7 rfl rfl (ok_iload_n 29 rfl rfl rfl (ok_iald 30 rfl rfl rfl (by first | omega | (simp [up_if]; omega) | (simp [up_if] at *; omega)) (ok_imul 31 rfl rfl (by first | omega | (simp [up_if]; omega) | (simp [up_if] at *; omega)) (ok_isub 32 rfl rfl (by first | omega | (simp [up_if]; omega) | (simp [up_if] at *; omega)) (ok_aload_n 33 rfl rfl rfl (ok_iload_n 34 rfl rfl rfl (ok_callVI (M' := M_Mo_groupsOf) (as := [_]) 35 rfl rfl ml_X12_208 (s_Mo_groupsOf hB ⟨t1, t2⟩) rfl rfl (Nat.le_of_ble_eq_true rfl) ⟨Nat.le_of_ble_eq_true rfl, Nat.le_of_ble_eq_true rfl⟩ rfl (Nat.le_of_ble_eq_true rfl) (fun σ' z hz => ?_))))))))))
            have hz1 := hz.2
            refine ok_iadd 36 rfl rfl (by first | omega | (simp [up_if]; omega) | (simp [up_if] at *; omega)) (ok_iconst 37 rfl rfl (by decide) (ok_iadd 38 rfl rfl (by first | omega | (simp [up_if]; omega) | (simp [up_if] at *; omega)) (ok_goto 39 69 rfl rfl rfl (ok_iret 43 rfl rfl rfl ?_))))
            first | exact ⟨_, rfl, hz.1⟩ | (rw [hz]; exact ⟨_, rfl, fr.rf⟩)
        · refine ok_iconst 19 rfl rfl (by decide) (ok_iret 20 rfl rfl rfl ?_)
          exact ⟨_, rfl, fr.rf⟩
theorem wo_wk {σ : eS} {s n i j : Int} (hn : 0 ≤ n ∧ n ≤ 8) (he : n = σ 1 s) (hi : 0 ≤ i ∧ i < n) (hj : 0 ≤ j ∧ j < n) : wk (wo σ s n (n * n)) i j = cB σ s i j := by
  have g := ix8 hn hi hj
  have e : wo σ s n (n * n) 0 22 = n := by simp [wo]
  unfold wk
  rw [e]
  show (if (9 : Nat) = 0 ∧ n * i + j = 22 then n else if (9 : Nat) = 9 ∧ 0 ≤ n * i + j ∧ n * i + j < n * n then σ 3 (64 * s + (n * i + j)) else _) = _
  rw [if_neg (by omega), if_pos ⟨rfl, by omega, by omega⟩, he]
  unfold cB
  congr 1
  omega
theorem wo_ev {σ : eS} {s : Int} (hB : iB1 σ) (h : evB σ s) : EvW (σ 1 s) (wk (wo σ s (σ 1 s) (σ 1 s * σ 1 s))) (rowB σ s 0) := by
  obtain ⟨⟨t1, t2, t3⟩, h0, hr, hc⟩ := h
  have tn := (hB.1 s t1 t2).2.1
  refine ⟨fun i j a b c d => ?_, fun i a b => ?_, fun j a b => ?_⟩
  · rw [wo_wk ⟨by omega, tn⟩ rfl ⟨a, b⟩ ⟨c, d⟩]
    exact (cB_bd hB ⟨t1, t2⟩ ⟨a, b⟩ ⟨c, d⟩).1
  · rw [← hr i a b]
    exact sm_cg (fun k c d => wo_wk ⟨by omega, tn⟩ rfl ⟨a, b⟩ ⟨c, by omega⟩)
  · rw [← hc j a b]
    exact sm_cg (fun k c d => wo_wk ⟨by omega, tn⟩ rfl ⟨c, by omega⟩ ⟨a, b⟩)
abbrev rgS : Nat → Int → Prop := fun c k => (c = 0 ∧ k = 22) ∨ c = 9 ∨ c = 10 ∨ c = 11
theorem wo_fr (σ : eS) (s n j : Int) : fr rgS σ (wo σ s n j) := by
  intro c k h
  simp only [rgS] at h
  show (if c = 0 ∧ k = 22 then n else if c = 9 ∧ 0 ≤ k ∧ k < j then σ 3 (64 * s + k) else σ c k) = _
  rw [if_neg (by omega), if_neg (by omega)]
abbrev rgP : Nat → Int → Prop := fun c k => (c = 0 ∧ (k = 22 ∨ (27 ≤ k ∧ k ≤ 31))) ∨ c = 9 ∨ c = 10 ∨ c = 11 ∨ c = 12 ∨ c = 13
def QP (σ σ' : eS) : Prop := fr rgP σ σ' ∧ (iK σ → iK σ')
theorem QK.iK {σ σ' : eS} {k m z : Int} (hn : nW σ) (hm : 0 ≤ m ∧ m ≤ 799999992) (h : QK σ k m σ' z) (h2 : k = 2 → 1 ≤ σ 0 31 ∧ σ 0 31 ≤ 4 ∧ σ 0 22 = 2 * σ 0 31) : iK σ' := by
  obtain ⟨f, e, z1, z2, e28, e29, e30, hw, hc⟩ := h
  obtain ⟨n1, n2⟩ := hn
  refine ⟨by omega, by omega, by omega, by omega, by omega, by omega, by rw [← e, e29]; exact hw, by rw [← e, e28]; exact hc, fun q => ?_⟩
  have := h2 (by omega)
  rw [f 0 31 (by simp only [rgK]; omega)]
  omega
theorem s_Mo_peel {σ : eS} {s r : Int} (hB : iB1 σ) : MtI shB M_Mo_peel [vr 0, vi s, vi r] σ (fun σ' _ => QP σ σ') := by
  refine Mt.of okM_Mo_peel (Nat.le_of_ble_eq_true rfl) (fun hk hg => ?_)
  refine ok_aload_n 0 rfl rfl rfl (ok_iload_n 1 rfl rfl rfl (ok_callVI (M' := M_Mo_isEven) (as := [_]) 2 rfl rfl ml_X12_202 (s_Mo_isEven hB) rfl rfl (Nat.le_of_ble_eq_true rfl) ⟨Nat.le_of_ble_eq_true rfl, Nat.le_of_ble_eq_true rfl⟩ rfl (Nat.le_of_ble_eq_true rfl) (fun σ' z1 a1 => ?_)))
  obtain ⟨hs_, a1⟩ := a1
  rw [hs_]; clear hs_ σ'
  refine ok_if_eq 3 15 rfl rfl rfl (fun h5 => ?_) (fun h5 => ?_)
  · refine ok_iconst 7 rfl rfl (by decide) (ok_iret 8 rfl rfl rfl ?_)
    exact ⟨_, rfl, fr.rf, id⟩
  · refine ok_iload_n 4 rfl rfl rfl (ok_callSI (M' := M_Mo_isRule) (as := [_]) 5 rfl rfl ml_X12_291 (s_Mo_isRule) ⟨Nat.le_of_ble_eq_true rfl, Nat.le_of_ble_eq_true rfl⟩ rfl (Nat.le_of_ble_eq_true rfl) (fun σ' z2 a2 => ?_))
    obtain ⟨hs_, a2⟩ := a2
    rw [hs_]; clear hs_ σ'
    refine ok_if_ne 6 17 rfl rfl rfl (fun h12 => ?_) (fun h12 => ?_)
    · have he := yes1 a1 h5
      obtain ⟨t1, t2, t3⟩ := id he.1
      have tn := hB.1 s t1 t2
      have rb := rowB_bd hB ⟨t1, t2⟩ (i := 0) ⟨by omega, by omega⟩
      have hev := wo_ev hB he
      have f := wo_fr σ s (σ 1 s) (σ 1 s * σ 1 s)
      refine ok_aload_n 9 rfl rfl rfl (ok_iload_n 10 rfl rfl rfl (ok_callVV (M' := M_Mo_worksOn) (as := [_]) 11 rfl rfl ml_X12_294 (s_Mo_worksOn hB he.1) rfl rfl (Nat.le_of_ble_eq_true rfl) ⟨Nat.le_of_ble_eq_true rfl, Nat.le_of_ble_eq_true rfl⟩ rfl (Nat.le_of_ble_eq_true rfl) (fun σ' hz => ?_)))
      rw [hz]
      clear hz σ'
      obtain ⟨τ, eτ⟩ : ∃ τ, τ = wo σ s (σ 1 s) (σ 1 s * σ 1 s) := ⟨_, rfl⟩
      rw [← eτ] at hev f ⊢
      have e22 : τ 0 22 = σ 1 s := by rw [eτ]; simp [wo]
      have hB' : iB1 τ := hB.fr (fun c k q => f c k (by simp only [rgS]; omega))
      have er : rowB τ s 0 = rowB σ s 0 := by
        unfold rowB cB
        rw [f 1 s (by simp)]
        exact sm_cg (fun k _ _ => by rw [f 3 _ (by simp)])
      have hnW : nW τ := ⟨by omega, by omega⟩
      refine ok_aload_n 12 rfl rfl rfl (ok_iload_n 13 rfl rfl rfl (ok_iconst 14 rfl rfl (by decide) (ok_aload_n 15 rfl rfl rfl (ok_iload_n 16 rfl rfl rfl (ok_iconst 17 rfl rfl (by decide) (ok_callVL (M' := M_Mo_rowOf) (as := [_, _]) 18 rfl rfl ml_X12_114 (s_Mo_rowOf hB' ⟨t1, t2⟩ (by rw [f 1 s (by simp)]; omega)) rfl rfl (Nat.le_of_ble_eq_true rfl) ⟨Nat.le_of_ble_eq_true rfl, Nat.le_of_ble_eq_true rfl⟩ rfl (Nat.le_of_ble_eq_true rfl) (fun σ' z hz => ?_)))))))
      rw [hz.1, hz.2, er]; clear hz z σ'
      refine ok_l2i 19 rfl rfl (by first | omega | (simp [up_if]; omega) | (simp [up_if] at *; omega)) (ok_callVI (M' := M_Mo_keepsAll) (as := [_, _, _]) 20 rfl rfl ml_X12_297 (s_Mo_keepsAll hnW (by rw [e22]; exact hev) ⟨by have := he.2.1; omega, by omega⟩) rfl rfl (Nat.le_of_ble_eq_true rfl) ⟨Nat.le_of_ble_eq_true rfl, Nat.le_of_ble_eq_true rfl⟩ rfl (Nat.le_of_ble_eq_true rfl) (fun σ' z hz => ?_))
      refine ok_iret 21 rfl rfl rfl ?_
      exact ⟨_, rfl, fr.tr (f.mono (fun c k q => by simp only [rgS, rgP] at q ⊢; omega)) (hz.1.mono (fun c k q => by simp only [rgK, rgP] at q ⊢; omega)), fun _ => hz.iK hnW ⟨by omega, by omega⟩ (fun q => by omega)⟩
    · refine ok_iconst 7 rfl rfl (by decide) (ok_iret 8 rfl rfl rfl ?_)
      exact ⟨_, rfl, fr.rf, id⟩
end
section
theorem iB1_frS {σ τ : eS} {P : Nat → Int → Prop} (h : iB1 σ) (f : fr P σ τ) (hp : ∀ c k, (c = 1 ∨ c = 2 ∨ c = 3 ∨ c = 4) → ¬ P c k) : iB1 τ := h.fr (fun c k q => f c k (hp c k q))
theorem left_pos {σ : eS} {x : Int} (h : nW σ) (he : EvW (σ 0 22) (wk σ) x) (hex : ∃ k, 0 ≤ k ∧ k < σ 0 22 * σ 0 22 ∧ 0 < σ 9 k) : 1 ≤ x ∧ 1 ≤ np σ := by
  obtain ⟨k, a, b, c⟩ := hex
  obtain ⟨n1, n2⟩ := h
  refine ⟨?_, np_pos a b c⟩
  have g1 := Int.mul_ediv_add_emod k (σ 0 22)
  have g2 := Int.emod_nonneg k (by omega : σ 0 22 ≠ 0)
  have g3 := Int.emod_lt_of_pos k (by omega : 0 < σ 0 22)
  have g4 : k / σ 0 22 < σ 0 22 := Int.ediv_lt_of_lt_mul (by omega) (by omega)
  have g5 : 0 ≤ k / σ 0 22 := Int.ediv_nonneg a (by omega)
  have g6 := EvW_bd he ⟨g5, g4⟩ ⟨g2, g3⟩
  unfold wk at g6
  rw [g1] at g6
  omega
theorem left_or {σ : eS} {z : Int} (hz : (z = 1 ∧ ∃ k, 0 ≤ k ∧ k < σ 0 22 * σ 0 22 ∧ 0 < σ 9 k) ∨ (z = 0 ∧ ∀ k, 0 ≤ k → k < σ 0 22 * σ 0 22 → σ 9 k ≤ 0)) (h : ¬ z = 0) : ∃ k, 0 ≤ k ∧ k < σ 0 22 * σ 0 22 ∧ 0 < σ 9 k := by
  rcases hz with q | q
  · exact q.2
  · exact absurd q.1 h
theorem evB_fr {σ τ : eS} {s : Int} (h : evB σ s) (f : ∀ (c : Nat) (k : Int), (c = 1 ∨ c = 3) → τ c k = σ c k) : evB τ s ∧ rowB τ s 0 = rowB σ s 0 ∧ τ 1 s = σ 1 s := by
  have e1 : ∀ k, τ 1 k = σ 1 k := fun k => f 1 k (Or.inl rfl)
  have e3 : ∀ k, τ 3 k = σ 3 k := fun k => f 3 k (Or.inr rfl)
  have er : rowB τ s = rowB σ s := by funext i; unfold rowB cB; simp only [e1, e3]
  have ec : colB τ s = colB σ s := by funext i; unfold colB cB; simp only [e1, e3]
  unfold evB tabB
  rw [er, ec, e1]
  exact ⟨h, rfl, rfl⟩
theorem s_Mo_sought {σ : eS} {s w : Int} (hB : iB1 σ) : MtI shB M_Mo_sought [vr 0, vi s, vi w] σ (fun σ' _ => fr rgS σ σ') := by
  refine Mt.of okM_Mo_sought (Nat.le_of_ble_eq_true rfl) (fun hk hg => ?_)
  refine ok_aload_n 0 rfl rfl rfl (ok_iload_n 1 rfl rfl rfl (ok_callVI (M' := M_Mo_isEven) (as := [_]) 2 rfl rfl ml_X12_202 (s_Mo_isEven hB) rfl rfl (Nat.le_of_ble_eq_true rfl) ⟨Nat.le_of_ble_eq_true rfl, Nat.le_of_ble_eq_true rfl⟩ rfl (Nat.le_of_ble_eq_true rfl) (fun σ' z1 a1 => ?_)))
  obtain ⟨hs_, a1⟩ := a1
  rw [hs_]; clear hs_ σ'
  refine ok_if_eq 3 30 rfl rfl rfl (fun h5 => ?_) (fun h5 => ?_)
  · refine ok_iconst 16 rfl rfl (by decide) (ok_iret 17 rfl rfl rfl ?_)
    exact ⟨_, rfl, fr.rf⟩
  · obtain ⟨u1, u2, u3⟩ := (yes1 a1 h5).1
    refine ok_aload_n 4 rfl rfl rfl (ok_getR 5 rfl rfl fl_X12_7 rfl rfl (ok_iload_n 6 rfl rfl rfl (ok_iald 7 rfl rfl rfl (by first | omega | (simp [up_if]; omega) | (simp [up_if] at *; omega)) (ok_iconst 8 rfl rfl (by decide) (ok_icmp_gt 9 30 rfl rfl rfl (fun h15 => ?_) (fun h15 => ?_))))))
    · refine ok_iconst 16 rfl rfl (by decide) (ok_iret 17 rfl rfl rfl ?_)
      exact ⟨_, rfl, fr.rf⟩
    · refine ok_iload_n 10 rfl rfl rfl (ok_i2l 11 rfl rfl (ok_lconst (w := 0) 12 rfl rfl rfl (by decide) (ok_ldc2 13 (4) rfl rfl kc_X12_318 (by decide) (ok_callSI (M' := M_Mo_isIn) (as := [_, _, _]) 14 rfl rfl ml_X12_99 (s_Mo_isIn_r) ⟨Nat.le_of_ble_eq_true rfl, Nat.le_of_ble_eq_true rfl⟩ rfl (Nat.le_of_ble_eq_true rfl) (fun σ' z2 a2 => ?_)))))
      obtain ⟨hs_, a2⟩ := a2
      rw [hs_]; clear hs_ σ'
      refine ok_if_ne 15 32 rfl rfl rfl (fun h27 => ?_) (fun h27 => ?_)
      · refine ok_iconst 18 rfl rfl (by decide) (ok_ist3 19 rfl rfl rfl (ok_iconst 20 rfl rfl (by decide) (ok_ist4 21 rfl rfl rfl (ok_iconst 22 rfl rfl (by decide) (ok_ist5 23 rfl rfl rfl ?_)))))
        have he := yes1 a1 h5
        have hw := yes1 a2 h27
        have tn := hB.1 s u1 u2
        have rb := rowB_bd hB ⟨u1, u2⟩ (i := 0) ⟨by omega, by omega⟩
        obtain ⟨m, em⟩ : ∃ m, m = rowB σ s 0 := ⟨_, rfl⟩
        have hm1 := he.2.1
        rw [← em] at rb hm1
        refine lpO4 (fun (b p k : Int) (_ : eS) => [some (vr 0), some (vi s), some (vi w), some (vi b), some (vi p), some (vi k), none]) (fun _ _ _ ρ => ρ) (fun _ p k ρ => fr rgS σ ρ ∧ 0 ≤ k ∧ k ≤ 256) (fun _ _ k _ => (256 - k).toNat) ?_ (-1) 0 0 σ ⟨fr.rf, by omega, by omega⟩
        rintro b p k ρ ⟨f, k1, k2⟩ ih
        have hB' : iB1 ρ := iB1_frS hB f (fun c k q => by simp only [rgS]; omega)
        obtain ⟨he', er, e1⟩ := evB_fr he (τ := ρ) (fun c k q => f c k (by simp only [rgS]; omega))
        refine ok_iload 24 rfl rfl rfl (ok_sipush 25 rfl rfl (by decide) (by decide) (ok_icmp_ge 26 125 rfl rfl rfl (fun h45 => ?_) (fun h45 => ?_)))
        · refine ok_iload_n 64 rfl rfl rfl (ok_if_ne 65 134 rfl rfl rfl (fun h126 => ?_) (fun h126 => ?_))
          · refine ok_iload_n 68 rfl rfl rfl (ok_iload_n 69 rfl rfl rfl (ok_iconst 70 rfl rfl (by decide) (ok_isub 71 rfl rfl (by first | omega | (simp [up_if]; omega) | (simp [up_if] at *; omega)) (ok_callSI (M' := M_Mo_ruleOf) (as := [_, _]) 72 rfl rfl ml_X12_320 (s_Mo_ruleOf ⟨by omega, by omega⟩) ⟨Nat.le_of_ble_eq_true rfl, Nat.le_of_ble_eq_true rfl⟩ rfl (Nat.le_of_ble_eq_true rfl) (fun σ' z hz => ?_)))))
            rw [hz.1, hz.2]
            clear hz z σ'
            refine ok_iret 73 rfl rfl rfl ?_
            exact ⟨_, rfl, f⟩
          · refine ok_iload 66 rfl rfl rfl (ok_goto 67 141 rfl rfl rfl (ok_iret 73 rfl rfl rfl ?_))
            exact ⟨_, rfl, f⟩
        · refine ok_aload_n 27 rfl rfl rfl (ok_iload_n 28 rfl rfl rfl (ok_callVV (M' := M_Mo_worksOn) (as := [_]) 29 rfl rfl ml_X12_294 (s_Mo_worksOn hB' he'.1) rfl rfl (Nat.le_of_ble_eq_true rfl) ⟨Nat.le_of_ble_eq_true rfl, Nat.le_of_ble_eq_true rfl⟩ rfl (Nat.le_of_ble_eq_true rfl) (fun σ' hz => ?_)))
          rw [hz]
          clear hz σ'
          have hev := wo_ev hB' he'
          have g := f.tr (wo_fr ρ s (ρ 1 s) (ρ 1 s * ρ 1 s))
          have e22 : wo ρ s (ρ 1 s) (ρ 1 s * ρ 1 s) 0 22 = ρ 1 s := by simp [wo]
          obtain ⟨τ, eτ⟩ : ∃ τ, τ = wo ρ s (ρ 1 s) (ρ 1 s * ρ 1 s) := ⟨_, rfl⟩
          rw [← eτ] at hev g e22 ⊢
          rw [er, ← em, ← e22] at hev
          clear eτ
          refine ok_iconst 30 rfl rfl (by decide) (ok_ist6 31 rfl rfl rfl ?_)
          refine lpO3 (fun (c _ : Int) (_ : eS) => [some (vr 0), some (vi s), some (vi w), some (vi b), some (vi p), some (vi k), some (vi c)]) (fun _ _ υ => υ) (fun c x υ => fr rgS σ υ ∧ 0 ≤ c ∧ c + np υ ≤ 64 ∧ 0 ≤ x ∧ x ≤ m ∧ υ 0 22 = τ 0 22 ∧ EvW (υ 0 22) (wk υ) x) (fun c _ _ => (64 - c).toNat) ?_ 0 m τ ⟨g, by omega, by have := np_bd τ ⟨by omega, by omega⟩; omega, by omega, by omega, rfl, hev⟩
          rintro c x υ ⟨g1, c1, c2, x1, x2, f22, ev⟩ ih2
          have hnW : nW υ := ⟨by omega, by omega⟩
          have npb := np_bd υ hnW
          refine ok_aload_n 32 rfl rfl rfl (ok_callVI (M' := M_Mo_isLeft) (as := []) 33 rfl rfl ml_X12_285 (s_Mo_isLeft hnW) rfl rfl (Nat.le_of_ble_eq_true rfl) ⟨Nat.le_of_ble_eq_true rfl, Nat.le_of_ble_eq_true rfl⟩ rfl (Nat.le_of_ble_eq_true rfl) (fun σ' z hz => ?_))
          obtain ⟨hs_, hz⟩ := hz
          rw [hs_]; clear hs_ σ'
          refine ok_if_eq 34 97 rfl rfl rfl (fun h60 => ?_) (fun h60 => ?_)
          · clear hz
            refine ok_iload_n 51 rfl rfl rfl (ok_iconst 52 rfl rfl (by decide) (ok_icmp_eq 53 112 rfl rfl rfl (fun h99 => ?_) (fun h99 => ?_)))
            · refine ok_iload 58 rfl rfl rfl (ok_ist3 59 rfl rfl rfl (ok_iload 60 rfl rfl rfl (ok_ist4 61 rfl rfl rfl (ok_inc5 62 rfl rfl rfl (by first | omega | (simp [up_if]; omega) | (simp [up_if] at *; omega)) (ok_goto 63 40 rfl rfl rfl ?_)))))
              exact ok_fg [some (vr 0), some (vi s), some (vi w), some (vi _), some (vi _), some (vi (k + 1)), none] ⟨rfl, rfl, rfl, rfl, rfl, rfl, trivial⟩ (ih _ _ (k + 1) υ ⟨g1, by omega, by omega⟩ (by omega))
            · refine ok_iload 54 rfl rfl rfl (ok_iload 55 rfl rfl rfl (ok_icmp_lt 56 112 rfl rfl rfl (fun h106 => ?_) (fun h106 => ?_)))
              · refine ok_iload 58 rfl rfl rfl (ok_ist3 59 rfl rfl rfl (ok_iload 60 rfl rfl rfl (ok_ist4 61 rfl rfl rfl (ok_inc5 62 rfl rfl rfl (by first | omega | (simp [up_if]; omega) | (simp [up_if] at *; omega)) (ok_goto 63 40 rfl rfl rfl ?_)))))
                exact ok_fg [some (vr 0), some (vi s), some (vi w), some (vi _), some (vi _), some (vi (k + 1)), none] ⟨rfl, rfl, rfl, rfl, rfl, rfl, trivial⟩ (ih _ _ (k + 1) υ ⟨g1, by omega, by omega⟩ (by omega))
              · refine ok_goto 57 119 rfl rfl rfl (ok_inc5 62 rfl rfl rfl (by first | omega | (simp [up_if]; omega) | (simp [up_if] at *; omega)) (ok_goto 63 40 rfl rfl rfl ?_))
                exact ok_fg [some (vr 0), some (vi s), some (vi w), some (vi _), some (vi _), some (vi (k + 1)), none] ⟨rfl, rfl, rfl, rfl, rfl, rfl, trivial⟩ (ih _ _ (k + 1) υ ⟨g1, by omega, by omega⟩ (by omega))
          · obtain ⟨xp, np1⟩ := left_pos hnW ev (left_or hz h60)
            clear hz
            refine ok_iload 35 rfl rfl rfl (ok_aload_n 36 rfl rfl rfl (ok_iload 37 rfl rfl rfl (ok_iload 38 rfl rfl rfl (ok_iconst 39 rfl rfl (by decide) (ok_mmin 40 rfl rfl ml_X12_271 ⟨Nat.le_of_ble_eq_true rfl, Nat.le_of_ble_eq_true rfl⟩ (ok_callSI (M' := M_Mo_ruleOf) (as := [_, _]) 41 rfl rfl ml_X12_320 (s_Mo_ruleOf ⟨by omega, by omega⟩) ⟨Nat.le_of_ble_eq_true rfl, Nat.le_of_ble_eq_true rfl⟩ rfl (Nat.le_of_ble_eq_true rfl) (fun σ' z hz => ?_)))))))
            rw [hz.1, hz.2]
            clear hz z σ'
            refine ok_callVI (M' := M_Mo_peels) (as := [_]) 42 rfl rfl ml_X12_288 (s_Mo_peels hnW ev ⟨xp, by omega⟩) rfl rfl (Nat.le_of_ble_eq_true rfl) ⟨Nat.le_of_ble_eq_true rfl, Nat.le_of_ble_eq_true rfl⟩ rfl (Nat.le_of_ble_eq_true rfl) (fun υ' z' hz => ?_)
            obtain ⟨y1, y2, y3, y4, y5, -⟩ := hz
            refine ok_if_le 43 87 rfl rfl rfl (fun h80 => ?_) (fun h80 => ?_)
            · refine ok_iconst 46 rfl rfl (by decide) (ok_callSI (M' := M_Mo_one) (as := [_]) 47 rfl rfl ml_X12_192 (s_Mo_one) ⟨Nat.le_of_ble_eq_true rfl, Nat.le_of_ble_eq_true rfl⟩ rfl (Nat.le_of_ble_eq_true rfl) (fun σ' z hz => ?_))
              rw [hz.1, hz.2]
              clear hz z σ'
              refine ok_iadd 48 rfl rfl (by first | omega | (simp [up_if]; omega) | (simp [up_if] at *; omega)) (ok_ist6 49 rfl rfl rfl (ok_goto 50 56 rfl rfl rfl ?_))
              first | (exfalso; omega) | exact ih2 (c + 1) (x - z') υ' ⟨g1.tr (y3.mono (fun c k q => by simp only [rgS]; omega)), by omega, by omega, by omega, by omega, by rw [y3 0 22 (by omega)]; exact f22, by rw [y3 0 22 (by omega)]; exact y4⟩ (by omega)
            · refine ok_iconst 44 rfl rfl (by decide) (ok_goto 45 88 rfl rfl rfl (ok_callSI (M' := M_Mo_one) (as := [_]) 47 rfl rfl ml_X12_192 (s_Mo_one) ⟨Nat.le_of_ble_eq_true rfl, Nat.le_of_ble_eq_true rfl⟩ rfl (Nat.le_of_ble_eq_true rfl) (fun σ' z hz => ?_)))
              rw [hz.1, hz.2]
              clear hz z σ'
              refine ok_iadd 48 rfl rfl (by first | omega | (simp [up_if]; omega) | (simp [up_if] at *; omega)) (ok_ist6 49 rfl rfl rfl (ok_goto 50 56 rfl rfl rfl ?_))
              first | (exfalso; omega) | exact ih2 (c + 1) (x - z') υ' ⟨g1.tr (y3.mono (fun c k q => by simp only [rgS]; omega)), by omega, by omega, by omega, by omega, by rw [y3 0 22 (by omega)]; exact f22, by rw [y3 0 22 (by omega)]; exact y4⟩ (by omega)
      · refine ok_iconst 16 rfl rfl (by decide) (ok_iret 17 rfl rfl rfl ?_)
        exact ⟨_, rfl, fr.rf⟩
end
section
theorem sm_add (f : Int → Int) (a : Nat) : ∀ b : Nat, sm f (a + b) = sm f a + sm (fun k => f (a + k)) b
  | 0 => by simp [sm]
  | b + 1 => by
    show sm f (a + b + 1) = _
    have e1 : sm f (a + b + 1) = sm f (a + b) + f ((a + b : Nat) : Int) := rfl
    have e2 : sm (fun k => f (a + k)) (b + 1) = sm (fun k => f (a + k)) b + f ((a : Int) + ((b : Nat) : Int)) := rfl
    rw [e1, e2, sm_add f a b, show ((a + b : Nat) : Int) = (a : Int) + b by omega]
    omega
theorem sm_ex {f : Int → Int} : ∀ {n : Nat}, sm f n ≠ 0 → ∃ k : Int, 0 ≤ k ∧ k < n ∧ f k ≠ 0
  | 0, h => absurd rfl h
  | n + 1, h => by
    by_cases q : f (n : Int) = 0
    · have e : sm f (n + 1) = sm f n + f (n : Int) := rfl
      rw [e, q, Int.add_zero] at h
      obtain ⟨k, a, b, c⟩ := sm_ex h
      exact ⟨k, a, by omega, c⟩
    · exact ⟨n, by omega, by omega, q⟩
def tg (n v : Int) (c : Int → Int → Int) (row col : Int → Int) (i j a b : Int) : Int :=
  if a < n then (if b < n then (if a < i ∨ (a = i ∧ b < j) then c a b else 0) else (if a < i ∧ b = n + a then v - row a else 0))
  else (if b < n then (if b < i ∧ a = n + b then v - col b else 0) else (if b - n < i ∨ (b - n = i ∧ a - n < j) then c (b - n) (a - n) else 0))
theorem tg_s {n v : Int} {c : Int → Int → Int} {row col : Int → Int} {i j a b : Int} (hi : 0 ≤ i ∧ i < n) (hj : 0 ≤ j ∧ j < n) :
    (if a = n + j ∧ b = n + i then c i j else if a = i ∧ b = j then c i j else tg n v c row col i j a b) = tg n v c row col i (j + 1) a b := by
  by_cases q1 : a = n + j ∧ b = n + i
  · rw [if_pos q1]
    unfold tg
    rw [if_neg (by omega), if_neg (by omega), if_pos (by omega), show b - n = i by omega, show a - n = j by omega]
  · rw [if_neg q1]
    by_cases q2 : a = i ∧ b = j
    · rw [if_pos q2]
      unfold tg
      rw [if_pos (by omega), if_pos (by omega), if_pos (by omega), q2.1, q2.2]
    · rw [if_neg q2]
      unfold tg
      by_cases r1 : a < n
      · rw [if_pos r1, if_pos r1]
        by_cases r2 : b < n
        · rw [if_pos r2, if_pos r2]
          by_cases r3 : a < i ∨ (a = i ∧ b < j)
          · rw [if_pos r3, if_pos (by omega)]
          · rw [if_neg r3, if_neg (by omega)]
        · rw [if_neg r2, if_neg r2]
      · rw [if_neg r1, if_neg r1]
        by_cases r2 : b < n
        · rw [if_pos r2, if_pos r2]
        · rw [if_neg r2, if_neg r2]
          by_cases r3 : b - n < i ∨ (b - n = i ∧ a - n < j)
          · rw [if_pos r3, if_pos (by omega)]
          · rw [if_neg r3, if_neg (by omega)]
theorem tg_d {n v : Int} {c : Int → Int → Int} {row col : Int → Int} {i a b : Int} (hi : 0 ≤ i ∧ i < n) (ha : 0 ≤ a ∧ a < 2 * n) (hb : 0 ≤ b ∧ b < 2 * n) :
    (if a = n + i ∧ b = i then v - col i else if a = i ∧ b = n + i then v - row i else tg n v c row col i n a b) = tg n v c row col (i + 1) 0 a b := by
  by_cases q1 : a = n + i ∧ b = i
  · rw [if_pos q1]
    unfold tg
    rw [if_neg (by omega), if_pos (by omega), if_pos (by omega), q1.2]
  · rw [if_neg q1]
    by_cases q2 : a = i ∧ b = n + i
    · rw [if_pos q2]
      unfold tg
      rw [if_pos (by omega), if_neg (by omega), if_pos (by omega), q2.1]
    · rw [if_neg q2]
      unfold tg
      by_cases r1 : a < n
      · rw [if_pos r1, if_pos r1]
        by_cases r2 : b < n
        · rw [if_pos r2, if_pos r2]
          by_cases r3 : a < i ∨ (a = i ∧ b < n)
          · rw [if_pos r3, if_pos (by omega)]
          · rw [if_neg r3, if_neg (by omega)]
        · rw [if_neg r2, if_neg r2]
          by_cases r3 : a < i ∧ b = n + a
          · rw [if_pos r3, if_pos (by omega)]
          · rw [if_neg r3, if_neg (by omega)]
      · rw [if_neg r1, if_neg r1]
        by_cases r2 : b < n
        · rw [if_pos r2, if_pos r2]
          by_cases r3 : b < i ∧ a = n + b
          · rw [if_pos r3, if_pos (by omega)]
          · rw [if_neg r3, if_neg (by omega)]
        · rw [if_neg r2, if_neg r2]
          by_cases r3 : b - n < i ∨ (b - n = i ∧ a - n < n)
          · rw [if_pos r3, if_pos (by omega)]
          · rw [if_neg r3, if_neg (by omega)]
theorem tg_0 {n v : Int} {c : Int → Int → Int} {row col : Int → Int} {a b : Int} (ha : 0 ≤ a ∧ a < 2 * n) (hb : 0 ≤ b ∧ b < 2 * n) : tg n v c row col 0 0 a b = 0 := by
  unfold tg
  by_cases r1 : a < n
  · rw [if_pos r1]
    by_cases r2 : b < n
    · rw [if_pos r2, if_neg (by omega)]
    · rw [if_neg r2, if_neg (by omega)]
  · rw [if_neg r1]
    by_cases r2 : b < n
    · rw [if_pos r2, if_neg (by omega)]
    · rw [if_neg r2, if_neg (by omega)]
theorem tg_ev {n v : Int} {c : Int → Int → Int} (hn : 0 ≤ n) (hc : ∀ i j, 0 ≤ i → i < n → 0 ≤ j → j < n → 0 ≤ c i j)
    (hr : ∀ i, 0 ≤ i → i < n → sm (fun j => c i j) n.toNat ≤ v) (hk : ∀ j, 0 ≤ j → j < n → sm (fun i => c i j) n.toNat ≤ v) :
    EvW (2 * n) (tg n v c (fun i => sm (fun j => c i j) n.toNat) (fun j => sm (fun i => c i j) n.toNat) n 0) v := by
  have en : (2 * n).toNat = n.toNat + n.toNat := by omega
  have en2 : ((n.toNat : Nat) : Int) = n := by omega
  refine ⟨fun a b a1 a2 b1 b2 => ?_, fun a a1 a2 => ?_, fun b b1 b2 => ?_⟩
  · unfold tg
    by_cases r1 : a < n
    · rw [if_pos r1]
      by_cases r2 : b < n
      · rw [if_pos r2, if_pos (by omega)]; exact hc a b a1 r1 b1 r2
      · rw [if_neg r2]
        have := hr a a1 r1
        dsimp only
        split <;> omega
    · rw [if_neg r1]
      by_cases r2 : b < n
      · rw [if_pos r2]
        have := hk b b1 r2
        dsimp only
        split <;> omega
      · rw [if_neg r2, if_pos (by omega)]; exact hc _ _ (by omega) (by omega) (by omega) (by omega)
  · rw [en, sm_add, en2]
    by_cases r1 : a < n
    · have e1 : sm (fun b => tg n v c (fun i => sm (fun j => c i j) n.toNat) (fun j => sm (fun i => c i j) n.toNat) n 0 a b) n.toNat = sm (fun j => c a j) n.toNat :=
        sm_cg (fun k k1 k2 => by unfold tg; rw [if_pos r1, if_pos (by omega), if_pos (by omega)])
      have e2 : sm (fun k => tg n v c (fun i => sm (fun j => c i j) n.toNat) (fun j => sm (fun i => c i j) n.toNat) n 0 a (n + k)) n.toNat = sm (fun k => if k = a then v - sm (fun j => c a j) n.toNat else 0) n.toNat :=
        sm_cg (fun k k1 k2 => by
          unfold tg; rw [if_pos r1, if_neg (by omega)]
          by_cases q : k = a
          · rw [if_pos (by omega), if_pos q]
          · rw [if_neg (by omega), if_neg q])
      rw [e1, e2, sm_one _ a1 (by omega)]
      omega
    · have e1 : sm (fun b => tg n v c (fun i => sm (fun j => c i j) n.toNat) (fun j => sm (fun i => c i j) n.toNat) n 0 a b) n.toNat = sm (fun k => if k = a - n then v - sm (fun i => c i (a - n)) n.toNat else 0) n.toNat :=
        sm_cg (fun k k1 k2 => by
          unfold tg; rw [if_neg r1, if_pos (by omega)]
          by_cases q : k = a - n
          · rw [if_pos (by omega), if_pos q, q]
          · rw [if_neg (by omega), if_neg q])
      have e2 : sm (fun k => tg n v c (fun i => sm (fun j => c i j) n.toNat) (fun j => sm (fun i => c i j) n.toNat) n 0 a (n + k)) n.toNat = sm (fun i => c i (a - n)) n.toNat :=
        sm_cg (fun k k1 k2 => by unfold tg; rw [if_neg r1, if_neg (by omega), if_pos (by omega), show n + k - n = k by omega])
      rw [e1, e2, sm_one _ (by omega) (by omega)]
      omega
  · rw [en, sm_add, en2]
    by_cases r1 : b < n
    · have e1 : sm (fun a => tg n v c (fun i => sm (fun j => c i j) n.toNat) (fun j => sm (fun i => c i j) n.toNat) n 0 a b) n.toNat = sm (fun i => c i b) n.toNat :=
        sm_cg (fun k k1 k2 => by unfold tg; rw [if_pos (by omega), if_pos r1, if_pos (by omega)])
      have e2 : sm (fun k => tg n v c (fun i => sm (fun j => c i j) n.toNat) (fun j => sm (fun i => c i j) n.toNat) n 0 (n + k) b) n.toNat = sm (fun k => if k = b then v - sm (fun i => c i b) n.toNat else 0) n.toNat :=
        sm_cg (fun k k1 k2 => by
          unfold tg; rw [if_neg (by omega), if_pos r1]
          by_cases q : k = b
          · rw [if_pos (by omega), if_pos q]
          · rw [if_neg (by omega), if_neg q])
      rw [e1, e2, sm_one _ b1 (by omega)]
      omega
    · have e1 : sm (fun a => tg n v c (fun i => sm (fun j => c i j) n.toNat) (fun j => sm (fun i => c i j) n.toNat) n 0 a b) n.toNat = sm (fun k => if k = b - n then v - sm (fun j => c (b - n) j) n.toNat else 0) n.toNat :=
        sm_cg (fun k k1 k2 => by
          unfold tg; rw [if_pos (by omega), if_neg r1]
          by_cases q : k = b - n
          · rw [if_pos (by omega), if_pos q, q]
          · rw [if_neg (by omega), if_neg q])
      have e2 : sm (fun k => tg n v c (fun i => sm (fun j => c i j) n.toNat) (fun j => sm (fun i => c i j) n.toNat) n 0 (n + k) b) n.toNat = sm (fun j => c (b - n) j) n.toNat :=
        sm_cg (fun k k1 k2 => by unfold tg; rw [if_neg (by omega), if_neg r1, if_pos (by omega), show n + k - n = k by omega])
      rw [e1, e2, sm_one _ (by omega) (by omega)]
      omega
theorem EvW_cg {n m : Int} {w w' : Int → Int → Int} (h : EvW n w m) (e : ∀ a b, 0 ≤ a → a < n → 0 ≤ b → b < n → w' a b = w a b) : EvW n w' m :=
  ⟨fun i j a b c d => by rw [e i j a b c d]; exact h.1 i j a b c d, fun i a b => by rw [← h.2.1 i a b]; exact sm_cg (fun k c d => e i k a b c (by omega)), fun j a b => by rw [← h.2.2 j a b]; exact sm_cg (fun k c d => e k j c (by omega) a b)⟩
theorem wk_up {σ : eS} {N a b z a' b' : Int} (hN : σ 0 22 = N) (hN1 : 1 ≤ N ∧ N ≤ 8) (hb : 0 ≤ b ∧ b < N) (hb' : 0 ≤ b' ∧ b' < N) : wk (up σ 9 (N * a + b) z) a' b' = if a' = a ∧ b' = b then z else wk σ a' b' := by
  unfold wk
  rw [up_ne _ _ _ _ (show (0 : Nat) ≠ 9 by decide), hN, up_if]
  by_cases q : a' = a ∧ b' = b
  · rw [if_pos q, if_pos ⟨rfl, by rw [q.1, q.2]⟩]
  · rw [if_neg q, if_neg (fun y => q (ix_inj hN1 hb' hb y.2))]
end
