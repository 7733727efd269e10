theorem Qch_yes {σ σ' : eS} {n l r c z : Int} (hn : 1 ≤ n ∧ n ≤ 8) (h : Qch σ n (opB σ l r c) σ' z) (hc : cpl n (opB σ l r c) n.toNat 0) : fr (fun c _ => c = 10 ∨ c = 11) σ σ' ∧ lexCh n (opB σ l r c) (fun i => σ' 11 i) ∧ chB σ n l (fun i => σ' 11 i) := by
  rcases h with ⟨-, h, -⟩ | ⟨-, -, h1, h2⟩
  · exact absurd hc h
  · obtain ⟨p1, p2⟩ := lexCh_perm h2
    refine ⟨h1, h2, p1, fun i a b => ?_⟩
    have h3 := (lexCh_pc hn.2 h2 i.toNat (by omega)).2.2
    have h4 := (p2 i a b).1
    rw [h3, Int.toNat_of_nonneg a] at h4
    exact h4
theorem cpl_pos {σ : eS} {n m : Int} (hn : 1 ≤ n) (he : EvW n (wk σ) m) (hm : 1 ≤ m) : cpl n (opB σ 1 (-1) (-1)) n.toNat 0 := by
  obtain ⟨f, hf, hp⟩ := birk he (by omega) (by omega)
  exact cpl_of (by omega) hf (fun i a b => ⟨by have := hp i a b; omega, by have := (hf.1 i a b).1; omega⟩)
theorem s_Mo_choose {σ : eS} {r m : Int} (h : nW σ) (hw : wBd σ) (he : EvW (σ 0 22) (wk σ) m) (hm : 1 ≤ m) : MtV shB M_Mo_choose [vr 0, vi r] σ (fun σ' => fr (fun c _ => c = 10 ∨ c = 11) σ σ' ∧ chB σ (σ 0 22) 1 (fun i => σ' 11 i)) := by
  refine Mt.of okM_Mo_choose (Nat.le_of_ble_eq_true rfl) (fun hk hg => ?_)
  obtain ⟨n, en⟩ : ∃ x, x = σ 0 22 := ⟨_, rfl⟩
  have hn : 1 ≤ n ∧ n ≤ 8 := by rw [en]; exact h
  obtain ⟨z1, z2, z3, z4⟩ := bit2 (n := n) (by omega)
  have z4 := z4 hn.1
  obtain ⟨sq1, sq2⟩ := sq8 (n := n) ⟨by omega, by omega⟩
  rw [← en] at he ⊢
  have hwb : ∀ i j, 0 ≤ i → i < n → 0 ≤ j → j < n → 0 ≤ wk σ i j ∧ wk σ i j ≤ 799999992 := fun i j a1 a2 a3 a4 => hw i j a1 (by omega) a3 (by omega)
  have hcp := cpl_pos (σ := σ) hn.1 he hm
  have hc1 : cpl n (fun i j => 1 ≤ wk σ i j) n.toNat 0 := cpl_mono (fun i j _ _ _ _ q => q.1) n.toNat 0 (by omega) hcp
  refine ok_iload_n 0 rfl rfl rfl (ok_if_ne 1 15 rfl rfl rfl (fun h1 => ?_) (fun h1 => ?_))
  · refine ok_iload_n 9 rfl rfl rfl (ok_iconst 10 rfl rfl (by decide) (ok_icmp_ne 11 43 rfl rfl rfl (fun h17 => ?_) (fun h17 => ?_)))
    · refine ok_iload_n 27 rfl rfl rfl (ok_iconst 28 rfl rfl (by decide) (ok_icmp_ne 29 123 rfl rfl rfl (fun h45 => ?_) (fun h45 => ?_)))
      · refine ok_aload_n 75 rfl rfl rfl (ok_iconst 76 rfl rfl (by decide) (ok_callVL (M' := M_Mo_chooseGreatest) (as := [_]) 77 rfl rfl ml_X12_263 (s_Mo_chooseGreatest h hw (by decide) (by rw [← en]; exact hc1)) rfl rfl (Nat.le_of_ble_eq_true rfl) ⟨Nat.le_of_ble_eq_true rfl, Nat.le_of_ble_eq_true rfl⟩ rfl (Nat.le_of_ble_eq_true rfl) (fun τ z hz => ?_)))
        rw [← en] at hz
        refine ok_pop2 78 rfl rfl (ok_vret 79 rfl rfl rfl ?_)
        first | exact ⟨rfl, hy.1, hy.2.2⟩ | exact ⟨rfl, fun c k q => by rw [hy2.1 c k q, q1 c k (by omega)], hy3.1, fun i a b => by have := hy3.2 i a b; have hv3 : 1 ≤ τ 10 0 := hv; omega⟩ | exact ⟨rfl, hz.1, hz.2.2⟩
      · refine ok_iconst 30 rfl rfl (by decide) (ok_ist2 31 rfl rfl rfl (ok_iconst 32 rfl rfl (by decide) (ok_ist3 33 rfl rfl rfl ?_)))
        refine lpO2 (fun b k : Int => [some (vr 0), some (vi r), some (vi b), some (vi k)]) (fun _ _ => σ) (fun b k => 0 ≤ k ∧ k ≤ n * n ∧ -1 ≤ b ∧ b < k ∧ (b = -1 → ∀ q, 0 ≤ q → q < k → σ 9 q ≤ 0) ∧ (0 ≤ b → 0 < σ 9 b)) (fun _ k => (n * n - k).toNat) ?_ (-1) 0 ⟨by omega, by omega, by omega, by omega, fun _ q a b => by omega, fun a => by omega⟩
        rintro b k ⟨i1, i2, i3, i4, i5, i6⟩ ih
        refine ok_iload_n 34 rfl rfl rfl (ok_aload_n 35 rfl rfl rfl (ok_getI 36 rfl rfl fl_X12_234 rfl rfl (Or.inl rfl) (ok_aload_n 37 rfl rfl rfl (ok_getI 38 rfl rfl fl_X12_234 rfl rfl (Or.inl rfl) (ok_imul 39 rfl rfl (by rw [← en]; omega) ?_)))))
        rw [← en]
        refine ok_icmp_ge 40 102 rfl rfl rfl (fun h62 => ?_) (fun h62 => ?_)
        · have hb : 0 ≤ b := by
            rcases (show b = -1 ∨ 0 ≤ b by omega) with y | y
            · exfalso
              obtain ⟨f, hf, hp⟩ := birk he (by omega) (by omega)
              have g1 := hf.1 0 (by omega) (by omega)
              have g2 := hp 0 (by omega) (by omega)
              have g3 := ix8 (n := n) (i := 0) (j := f 0) ⟨by omega, by omega⟩ ⟨by omega, by omega⟩ g1
              unfold wk at g2
              rw [← en] at g2
              have := i5 y (n * 0 + f 0) (by omega) (by omega)
              omega
            · exact y
          have hbp := i6 hb
          have e1 : n * (b / n) + b % n = b := Int.mul_ediv_add_emod b n
          have e2 := Int.emod_nonneg b (by omega : n ≠ 0)
          have e3 := Int.emod_lt_of_pos b (by omega : 0 < n)
          have e4 : b / n < n := Int.ediv_lt_of_lt_mul (by omega) (by omega)
          have e5 : 0 ≤ b / n := Int.ediv_nonneg hb (by omega)
          have hcq : cpl n (opB σ 1 (b / n) (b % n)) n.toNat 0 := by
            obtain ⟨f, hf, hf0, hp⟩ := birk2 (i0 := b / n) (j0 := b % n) he ⟨e5, e4⟩ ⟨e2, e3⟩ (by unfold wk; rw [← en, e1]; exact hbp)
            refine cpl_of (by omega) hf (fun i a c => ⟨by have := hp i a c; omega, fun q => by rw [q]; exact hf0, fun q => ?_⟩)
            rcases (show i < b / n ∨ i = b / n ∨ b / n < i by omega) with y | y | y
            · exact absurd (by rw [q, hf0]) (hf.2 i (b / n) a y e4)
            · exact y
            · exact absurd (by rw [q, hf0]) (hf.2 (b / n) i e5 y c)
          refine ok_aload_n 62 rfl rfl rfl (ok_iconst 63 rfl rfl (by decide) (ok_iload_n 64 rfl rfl rfl (ok_aload_n 65 rfl rfl rfl (ok_getI 66 rfl rfl fl_X12_234 rfl rfl (Or.inl rfl) (ok_idiv 67 rfl rfl (by omega) (by rw [← en]; omega) (ok_iload_n 68 rfl rfl rfl (ok_aload_n 69 rfl rfl rfl (ok_getI 70 rfl rfl fl_X12_234 rfl rfl (Or.inl rfl) (ok_irem 71 rfl rfl (by omega) (by rw [← en]; omega) ?_)))))))))
          rw [← en]
          refine ok_callVI (M' := M_Mo_isChosen) (as := [_, _, _]) 72 rfl rfl ml_X12_260 (s_Mo_isChosen h) rfl rfl (Nat.le_of_ble_eq_true rfl) ⟨Nat.le_of_ble_eq_true rfl, Nat.le_of_ble_eq_true rfl⟩ rfl (Nat.le_of_ble_eq_true rfl) (fun τ z hz => ?_)
          rw [← en] at hz
          have hy := Qch_yes hn hz hcq
          refine ok_pop 73 rfl rfl rfl (ok_goto 74 129 rfl rfl rfl (ok_vret 79 rfl rfl rfl ?_))
          exact ⟨rfl, hy.1, hy.2.2⟩
        · refine ok_aload_n 41 rfl rfl rfl (ok_getR 42 rfl rfl fl_X12_39 rfl rfl (ok_iload_n 43 rfl rfl rfl (ok_iald 44 rfl rfl rfl (by first | omega | (simp [up_if]; omega) | (simp [up_if] at *; omega)) (ok_if_le 45 96 rfl rfl rfl (fun h71 => ?_) (fun h71 => ?_)))))
          · refine ok_inc3 60 rfl rfl rfl (by first | omega | (simp [up_if]; omega) | (simp [up_if] at *; omega)) (ok_goto 61 52 rfl rfl rfl ?_)
            first
              | exact ih k (k + 1) ⟨by omega, by omega, by omega, by omega, fun y => by omega, fun _ => by omega⟩ (by omega)
              | exact ih b (k + 1) ⟨by omega, by omega, by omega, by omega, fun y => lt_ext (i5 y) (by omega), i6⟩ (by omega)
          · refine ok_iload_n 46 rfl rfl rfl (ok_iconst 47 rfl rfl (by decide) (ok_icmp_eq 48 94 rfl rfl rfl (fun h76 => ?_) (fun h76 => ?_)))
            · refine ok_iload_n 58 rfl rfl rfl (ok_ist2 59 rfl rfl rfl (ok_inc3 60 rfl rfl rfl (by first | omega | (simp [up_if]; omega) | (simp [up_if] at *; omega)) (ok_goto 61 52 rfl rfl rfl ?_)))
              first
                | exact ih k (k + 1) ⟨by omega, by omega, by omega, by omega, fun y => by omega, fun _ => by omega⟩ (by omega)
                | exact ih b (k + 1) ⟨by omega, by omega, by omega, by omega, fun y => lt_ext (i5 y) (by omega), i6⟩ (by omega)
            · refine ok_aload_n 49 rfl rfl rfl (ok_getR 50 rfl rfl fl_X12_39 rfl rfl (ok_iload_n 51 rfl rfl rfl (ok_iald 52 rfl rfl rfl (by first | omega | (simp [up_if]; omega) | (simp [up_if] at *; omega)) (ok_aload_n 53 rfl rfl rfl (ok_getR 54 rfl rfl fl_X12_39 rfl rfl (ok_iload_n 55 rfl rfl rfl (ok_iald 56 rfl rfl rfl (by first | omega | (simp [up_if]; omega) | (simp [up_if] at *; omega)) (ok_icmp_ge 57 96 rfl rfl rfl (fun h91 => ?_) (fun h91 => ?_)))))))))
              · refine ok_inc3 60 rfl rfl rfl (by first | omega | (simp [up_if]; omega) | (simp [up_if] at *; omega)) (ok_goto 61 52 rfl rfl rfl ?_)
                first
                  | exact ih k (k + 1) ⟨by omega, by omega, by omega, by omega, fun y => by omega, fun _ => by omega⟩ (by omega)
                  | exact ih b (k + 1) ⟨by omega, by omega, by omega, by omega, fun y => lt_ext (i5 y) (by omega), i6⟩ (by omega)
              · refine ok_iload_n 58 rfl rfl rfl (ok_ist2 59 rfl rfl rfl (ok_inc3 60 rfl rfl rfl (by first | omega | (simp [up_if]; omega) | (simp [up_if] at *; omega)) (ok_goto 61 52 rfl rfl rfl ?_)))
                first
                  | exact ih k (k + 1) ⟨by omega, by omega, by omega, by omega, fun y => by omega, fun _ => by omega⟩ (by omega)
                  | exact ih b (k + 1) ⟨by omega, by omega, by omega, by omega, fun y => lt_ext (i5 y) (by omega), i6⟩ (by omega)
    · refine ok_aload_n 12 rfl rfl rfl (ok_iconst 13 rfl rfl (by decide) (ok_iconst 14 rfl rfl (by decide) (ok_callVV (M' := M_Mo_laysCan) (as := [_, _]) 15 rfl rfl ml_X12_256 (s_Mo_laysCan h hw (by decide) (Or.inl rfl)) rfl rfl (Nat.le_of_ble_eq_true rfl) ⟨Nat.le_of_ble_eq_true rfl, Nat.le_of_ble_eq_true rfl⟩ rfl (Nat.le_of_ble_eq_true rfl) (fun τ hq => ?_))))
      rw [← en] at hq
      obtain ⟨q1, q2, q3⟩ := hq
      rw [if_pos rfl] at q2
      have hv := (dp_ge (sums := 0) (v := fun k => τ 10 k) hn (fun i j a b c d => (hwb i j a b c d).1) (by rw [if_pos rfl]; exact q2) (fun T a b => (q3 T a b).1) n.toNat 0 (by omega) (by omega) (by simp [pc]) hc1).2 rfl (by decide)
      have hv2 : τ 10 0 ≤ 799999992 := by
        rcases (q3 0 (by omega) (by omega)).1.2 with q | ⟨j, a1, a2, a3, a4⟩
        · have q5 : τ 10 0 = -1 := q.1
          omega
        · unfold cmbG at a4
          rw [if_pos rfl] at a4
          have := hwb (pc 0) j (by simp [pc]) (by simp [pc]; omega) a1 a2
          have q5 : τ 10 0 = min (wk σ (pc 0) j) (τ 10 (sB 0 j)) := a4
          clear a4
          omega
      have hcl := dp_le (x := τ 10 0) (v := fun k => τ 10 k) hv hn (fun T a b => (q3 T a b).1) n.toNat 0 (by omega) (by omega) (by simp [pc]) (Int.le_refl _)
      have t22 : τ 0 22 = n := by rw [q1 0 22 (by omega), en]
      have twk : wk τ = wk σ := by funext a b; unfold wk; rw [q1 0 22 (by omega), q1 9 _ (by omega)]
      refine ok_aload_n 16 rfl rfl rfl (ok_aload_n 17 rfl rfl rfl (ok_getR 18 rfl rfl fl_X12_42 rfl rfl (ok_iconst 19 rfl rfl (by decide) (ok_lald 20 rfl rfl rfl (by first | omega | (simp [up_if]; omega) | (simp [up_if] at *; omega)) (ok_l2i 21 rfl rfl (by first | omega | (simp [up_if]; omega) | (simp [up_if] at *; omega)) (ok_iconst 22 rfl rfl (by decide) (ok_iconst 23 rfl rfl (by decide) (ok_callVI (M' := M_Mo_isChosen) (as := [_, _, _]) 24 rfl rfl ml_X12_260 (s_Mo_isChosen (h.fr' (by rw [t22, en]))) rfl rfl (Nat.le_of_ble_eq_true rfl) ⟨Nat.le_of_ble_eq_true rfl, Nat.le_of_ble_eq_true rfl⟩ rfl (Nat.le_of_ble_eq_true rfl) (fun τ2 z hz => ?_)))))))))
      rw [t22] at hz
      have hy2 := Qch_yes hn hz (by unfold opB; rw [twk]; exact cpl_mono (fun i j a _ b _ q => ⟨q, by omega⟩) n.toNat 0 (by omega) hcl)
      have hy3 : chB σ n (τ 10 0) (fun i => τ2 11 i) := by have := hy2.2.2; unfold chB at this; rw [twk] at this; exact this
      refine ok_pop 25 rfl rfl rfl (ok_goto 26 129 rfl rfl rfl (ok_vret 79 rfl rfl rfl ?_))
      first | exact ⟨rfl, hy.1, hy.2.2⟩ | exact ⟨rfl, fun c k q => by rw [hy2.1 c k q, q1 c k (by omega)], hy3.1, fun i a b => by have := hy3.2 i a b; have hv3 : 1 ≤ τ 10 0 := hv; omega⟩ | exact ⟨rfl, hz.1, hz.2.2⟩
  · refine ok_aload_n 2 rfl rfl rfl (ok_iconst 3 rfl rfl (by decide) (ok_iconst 4 rfl rfl (by decide) (ok_iconst 5 rfl rfl (by decide) (ok_callVI (M' := M_Mo_isChosen) (as := [_, _, _]) 6 rfl rfl ml_X12_260 (s_Mo_isChosen h) rfl rfl (Nat.le_of_ble_eq_true rfl) ⟨Nat.le_of_ble_eq_true rfl, Nat.le_of_ble_eq_true rfl⟩ rfl (Nat.le_of_ble_eq_true rfl) (fun τ z hz => ?_)))))
    rw [← en] at hz
    have hy := Qch_yes hn hz hcp
    refine ok_pop 7 rfl rfl rfl (ok_goto 8 129 rfl rfl rfl (ok_vret 79 rfl rfl rfl ?_))
    first | exact ⟨rfl, hy.1, hy.2.2⟩ | exact ⟨rfl, fun c k q => by rw [hy2.1 c k q, q1 c k (by omega)], hy3.1, fun i a b => by have := hy3.2 i a b; have hv3 : 1 ≤ τ 10 0 := hv; omega⟩ | exact ⟨rfl, hz.1, hz.2.2⟩
