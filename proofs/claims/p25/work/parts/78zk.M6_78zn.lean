section
theorem lcS_big {a b l : Int} (ha : 1 ≤ a) (hb : 1 ≤ b) (h : l < a ∨ l < b) : lcS a b l = -1 := by
  unfold lcS
  rw [if_neg (by omega), if_pos]
  rw [lc_eq ha hb]
  have p := Int.lcm_pos (m := a) (n := b) (by omega) (by omega)
  have d1 := Int.le_of_dvd (by omega) (Int.dvd_lcm_left a b)
  have d2 := Int.le_of_dvd (by omega) (Int.dvd_lcm_right a b)
  omega
theorem lcS_val {a b l : Int} (ha : 1 ≤ a) (hb : 1 ≤ b) : lcS a b l = if l < a / (Int.gcd a b : Int) * b then -1 else a / (Int.gcd a b : Int) * b := by
  unfold lcS
  rw [if_neg (by omega)]
def mxB (σ : eS) (s o x d u e : Int) : Int → Int → Int := fun i j => x * cB σ s i j * d + u * cB σ o i j * e
def MXB (σ : eS) (s o t x y u v : Int) (σ' : eS) (z : Int) : Prop :=
  (z = 0 ∧ tbK σ σ' ∧ lcS (y * σ 2 s) (v * σ 2 o) 1000000000 = -1) ∨
  (1 ≤ lcS (y * σ 2 s) (v * σ 2 o) 1000000000 ∧ ((z = 0 ∧ tbK σ σ' ∧ ∃ i j, 0 ≤ i ∧ i < σ 1 s ∧ 0 ≤ j ∧ j < σ 1 s ∧ 1000000000000000 < mxB σ s o x (lcS (y * σ 2 s) (v * σ 2 o) 1000000000 / (y * σ 2 s)) u (lcS (y * σ 2 s) (v * σ 2 o) 1000000000 / (v * σ 2 o)) i j) ∨
   ((∀ i j, 0 ≤ i → i < σ 1 s → 0 ≤ j → j < σ 1 s → mxB σ s o x (lcS (y * σ 2 s) (v * σ 2 o) 1000000000 / (y * σ 2 s)) u (lcS (y * σ 2 s) (v * σ 2 o) 1000000000 / (v * σ 2 o)) i j ≤ 1000000000000000) ∧ MB σ t (σ 1 s) (lcS (y * σ 2 s) (v * σ 2 o) 1000000000) (mxB σ s o x (lcS (y * σ 2 s) (v * σ 2 o) 1000000000 / (y * σ 2 s)) u (lcS (y * σ 2 s) (v * σ 2 o) 1000000000 / (v * σ 2 o))) σ' z)))
def XmB (σ : eS) (s x y o u v t : Int) (σ' : eS) (z : Int) : Prop := (z = 0 ∧ tbK σ σ' ∧ ¬ (shr x y ∧ shr u v ∧ likeB σ s o t)) ∨ ((shr x y ∧ shr u v ∧ likeB σ s o t) ∧ MXB σ s o t x y u v σ' z)
theorem t_Mo_mix {σ : eS} {s x y o u v t : Int} (hB : iB1 σ) : MtI shB M_Mo_mix [vr 0, vi s, vi x, vi y, vi o, vi u, vi v, vi t] σ (fun σ' z => QM σ σ' z ∧ XmB σ s x y o u v t σ' z) := by
  refine Mt.of okM_Mo_mix (Nat.le_of_ble_eq_true rfl) (fun hk hg => ?_)
  have no : ∀ R : Prop, ¬ R → (¬ R → ¬ (shr x y ∧ shr u v ∧ likeB σ s o t)) → ∃ z : Int, some (vi 0) = some (vi z) ∧ QM σ σ z ∧ XmB σ s x y o u v t σ z := fun R h1 h2 => ⟨0, rfl, ⟨fr.rf, hB, Or.inl rfl⟩, Or.inl ⟨rfl, tbK_rf _, h2 h1⟩⟩
  refine ok_aload_n 0 rfl rfl rfl (ok_iload_n 1 rfl rfl rfl (ok_callVI (M' := M_Mo_isTable) (as := [_]) 2 rfl rfl ml_X12_111 (s_Mo_isTable_r) rfl rfl (Nat.le_of_ble_eq_true rfl) ⟨Nat.le_of_ble_eq_true rfl, Nat.le_of_ble_eq_true rfl⟩ rfl (Nat.le_of_ble_eq_true rfl) (fun σ' z1 a1 => ?_)))
  obtain ⟨hs_, a1⟩ := a1
  rw [hs_]; clear hs_ σ'
  refine ok_if_eq 3 59 rfl rfl rfl (fun h5 => ?_) (fun h5 => ?_)
  · refine ok_iconst 28 rfl rfl (by decide) (ok_zret 29 rfl rfl rfl (by first | omega | (simp [up_if]; omega) | (simp [up_if] at *; omega)) ?_)
    exact no _ (no1 a1 h5) (fun w q => w q.2.2.1)
  · refine ok_aload_n 4 rfl rfl rfl (ok_iload 5 rfl rfl rfl (ok_callVI (M' := M_Mo_isTable) (as := [_]) 6 rfl rfl ml_X12_111 (s_Mo_isTable_r) rfl rfl (Nat.le_of_ble_eq_true rfl) ⟨Nat.le_of_ble_eq_true rfl, Nat.le_of_ble_eq_true rfl⟩ rfl (Nat.le_of_ble_eq_true rfl) (fun σ' z2 a2 => ?_)))
    obtain ⟨hs_, a2⟩ := a2
    rw [hs_]; clear hs_ σ'
    refine ok_if_eq 7 59 rfl rfl rfl (fun h14 => ?_) (fun h14 => ?_)
    · refine ok_iconst 28 rfl rfl (by decide) (ok_zret 29 rfl rfl rfl (by first | omega | (simp [up_if]; omega) | (simp [up_if] at *; omega)) ?_)
      exact no _ (no1 a2 h14) (fun w q => w q.2.2.2.1)
    · refine ok_iload 8 rfl rfl rfl (ok_callSI (M' := M_Mo_isSlot) (as := [_]) 9 rfl rfl ml_X12_103 (s_Mo_isSlot_r) ⟨Nat.le_of_ble_eq_true rfl, Nat.le_of_ble_eq_true rfl⟩ rfl (Nat.le_of_ble_eq_true rfl) (fun σ' z3 a3 => ?_))
      obtain ⟨hs_, a3⟩ := a3
      rw [hs_]; clear hs_ σ'
      refine ok_if_eq 10 59 rfl rfl rfl (fun h22 => ?_) (fun h22 => ?_)
      · refine ok_iconst 28 rfl rfl (by decide) (ok_zret 29 rfl rfl rfl (by first | omega | (simp [up_if]; omega) | (simp [up_if] at *; omega)) ?_)
        exact no _ (no1 a3 h22) (fun w q => w q.2.2.2.2.1)
      · have hs : tabB σ s := yes1 a1 h5
        have ho : tabB σ o := yes1 a2 h14
        have ht := yes1 a3 h22
        obtain ⟨s1, s2, s3⟩ := id hs
        obtain ⟨o1, o2, o3⟩ := id ho
        obtain ⟨g1, g2, g3⟩ := hB.1 s s1 s2
        obtain ⟨k1, k2, k3⟩ := hB.1 o o1 o2
        refine ok_aload_n 11 rfl rfl rfl (ok_getR 12 rfl rfl fl_X12_7 rfl rfl (ok_iload_n 13 rfl rfl rfl (ok_iald 14 rfl rfl rfl (by first | omega | (simp [up_if]; omega) | (simp [up_if] at *; omega)) (ok_aload_n 15 rfl rfl rfl (ok_getR 16 rfl rfl fl_X12_7 rfl rfl (ok_iload 17 rfl rfl rfl (ok_iald 18 rfl rfl rfl (by first | omega | (simp [up_if]; omega) | (simp [up_if] at *; omega)) (ok_icmp_ne 19 59 rfl rfl rfl (fun h38 => ?_) (fun h38 => ?_)))))))))
        · refine ok_iconst 28 rfl rfl (by decide) (ok_zret 29 rfl rfl rfl (by first | omega | (simp [up_if]; omega) | (simp [up_if] at *; omega)) ?_)
          exact no _ h38 (fun w q => w q.2.2.2.2.2)
        · refine ok_iload_n 20 rfl rfl rfl (ok_iload_n 21 rfl rfl rfl (ok_callSI (M' := M_Mo_isPart) (as := [_, _]) 22 rfl rfl ml_X12_221 (s_Mo_isPart) ⟨Nat.le_of_ble_eq_true rfl, Nat.le_of_ble_eq_true rfl⟩ rfl (Nat.le_of_ble_eq_true rfl) (fun σ' z4 a4 => ?_)))
          obtain ⟨hs_, a4⟩ := a4
          rw [hs_]; clear hs_ σ'
          refine ok_if_eq 23 59 rfl rfl rfl (fun h46 => ?_) (fun h46 => ?_)
          · refine ok_iconst 28 rfl rfl (by decide) (ok_zret 29 rfl rfl rfl (by first | omega | (simp [up_if]; omega) | (simp [up_if] at *; omega)) ?_)
            exact no _ (no1 a4 h46) (fun w q => w q.1)
          · refine ok_iload 24 rfl rfl rfl (ok_iload 25 rfl rfl rfl (ok_callSI (M' := M_Mo_isPart) (as := [_, _]) 26 rfl rfl ml_X12_221 (s_Mo_isPart) ⟨Nat.le_of_ble_eq_true rfl, Nat.le_of_ble_eq_true rfl⟩ rfl (Nat.le_of_ble_eq_true rfl) (fun σ' z5 a5 => ?_)))
            obtain ⟨hs_, a5⟩ := a5
            rw [hs_]; clear hs_ σ'
            refine ok_if_ne 27 61 rfl rfl rfl (fun h56 => ?_) (fun h56 => ?_)
            · have p1 := yes1 a4 h46
              have p2 := yes1 a5 h56
              have hl : shr x y ∧ shr u v ∧ likeB σ s o t := ⟨p1, p2, hs, ho, ht, by omega⟩
              obtain ⟨n, en⟩ : ∃ x, x = σ 1 s := ⟨_, rfl⟩
              obtain ⟨x1, x2⟩ := sq8 (n := n) ⟨by omega, by omega⟩
              obtain ⟨A, eA⟩ : ∃ w, w = y * σ 2 s := ⟨_, rfl⟩
              obtain ⟨B, eB⟩ : ∃ w, w = v * σ 2 o := ⟨_, rfl⟩
              have bA := mul_bd (a := y) (b := σ 2 s) (A := 9999) (B := 999999) ⟨by omega, by omega⟩ ⟨by omega, by omega⟩
              have bA' := Int.mul_pos (by omega : 0 < y) (by omega : 0 < σ 2 s)
              have bB := mul_bd (a := v) (b := σ 2 o) (A := 9999) (B := 999999) ⟨by omega, by omega⟩ ⟨by omega, by omega⟩
              have bB' := Int.mul_pos (by omega : 0 < v) (by omega : 0 < σ 2 o)
              rw [← eA] at bA bA'
              rw [← eB] at bB bB'
              have no2 : lcS A B 1000000000 = -1 → ∃ z : Int, some (vi 0) = some (vi z) ∧ QM σ σ z ∧ XmB σ s x y o u v t σ z := fun h1 => ⟨0, rfl, ⟨fr.rf, hB, Or.inl rfl⟩, Or.inr ⟨hl, Or.inl ⟨rfl, tbK_rf _, by rw [← eA, ← eB]; exact h1⟩⟩⟩
              refine ok_iload_n 30 rfl rfl rfl (ok_i2l 31 rfl rfl (ok_aload_n 32 rfl rfl rfl (ok_getR 33 rfl rfl fl_X12_13 rfl rfl (ok_iload_n 34 rfl rfl rfl (ok_iald 35 rfl rfl rfl (by first | omega | (simp [up_if]; omega) | (simp [up_if] at *; omega)) (ok_i2l 36 rfl rfl (ok_lmul 37 rfl rfl (by rw [← eA]; omega) (ok_lst8 38 rfl rfl rfl (ok_iload 39 rfl rfl rfl (ok_i2l 40 rfl rfl (ok_aload_n 41 rfl rfl rfl (ok_getR 42 rfl rfl fl_X12_13 rfl rfl (ok_iload 43 rfl rfl rfl (ok_iald 44 rfl rfl rfl (by first | omega | (simp [up_if]; omega) | (simp [up_if] at *; omega)) (ok_i2l 45 rfl rfl (ok_lmul 46 rfl rfl (by rw [← eB]; omega) (ok_lst10 47 rfl rfl rfl ?_)))))))))))))))))
              rw [← eA, ← eB]
              refine ok_lload 48 rfl rfl rfl (ok_ldc2 49 (1000000000) rfl rfl kc_X12_224 (by decide) (ok_lcmp_gt 50 51 105 rfl rfl rfl rfl rfl (fun h92 => ?_) (fun h92 => ?_)))
              · refine ok_iconst 56 rfl rfl (by decide) (ok_zret 57 rfl rfl rfl (by first | omega | (simp [up_if]; omega) | (simp [up_if] at *; omega)) ?_)
                exact no2 (lcS_big (by omega) (by omega) (by omega))
              · refine ok_lload 52 rfl rfl rfl (ok_ldc2 53 (1000000000) rfl rfl kc_X12_224 (by decide) (ok_lcmp_le 54 55 107 rfl rfl rfl rfl rfl (fun h101 => ?_) (fun h101 => ?_)))
                · obtain ⟨c1, c2⟩ := gcd_pos (a := A) (b := B) (by omega)
                  have hv := lcS_val (a := A) (b := B) (l := 1000000000) (by omega) (by omega)
                  obtain ⟨c3, c4⟩ := gcd_div (by omega : 1 ≤ A) c1 c2
                  obtain ⟨E, eE⟩ : ∃ w, w = A / (Int.gcd A B : Int) := ⟨_, rfl⟩
                  rw [← eE] at c3 c4 hv
                  obtain ⟨F, eF⟩ : ∃ w, w = E * B := ⟨_, rfl⟩
                  have c5 := mul_bd (a := E) (b := B) (A := 1000000000) (B := 1000000000) ⟨by omega, by omega⟩ ⟨by omega, by omega⟩
                  have c6 := Int.mul_pos (by omega : 0 < E) (by omega : 0 < B)
                  rw [← eF] at c5 c6 hv
                  refine ok_lload 58 rfl rfl rfl (ok_lload 59 rfl rfl rfl (ok_lload 60 rfl rfl rfl (ok_callSL (M' := M_Mo_common) (as := [_, _]) 61 rfl rfl ml_X12_89 (s_Mo_common (by omega) (by omega)) ⟨Nat.le_of_ble_eq_true rfl, Nat.le_of_ble_eq_true rfl⟩ rfl (Nat.le_of_ble_eq_true rfl) (fun σ' z hz => ?_))))
                  rw [hz.1, hz.2]; clear hz z σ'
                  refine ok_ldiv 62 rfl rfl (by omega) (by omega) (ok_lload 63 rfl rfl rfl (ok_lmul 64 rfl rfl (by rw [← eE, ← eF]; omega) (ok_lst12 65 rfl rfl rfl ?_)))
                  rw [← eE, ← eF]
                  refine ok_lload 66 rfl rfl rfl (ok_ldc2 67 (1000000000) rfl rfl kc_X12_224 (by decide) (ok_lcmp_le 68 69 133 rfl rfl rfl rfl rfl (fun h127 => ?_) (fun h127 => ?_)))
                  · refine ok_aload_n 72 rfl rfl rfl (ok_getR 73 rfl rfl fl_X12_7 rfl rfl (ok_iload_n 74 rfl rfl rfl (ok_iald 75 rfl rfl rfl (by first | omega | (simp [up_if]; omega) | (simp [up_if] at *; omega)) (ok_ist14 76 rfl rfl rfl (ok_iconst 77 rfl rfl (by decide) (ok_ist15 78 rfl rfl rfl ?_))))))
                    rw [← en]
                    rw [if_neg (by omega)] at hv
                    obtain ⟨d1, d2⟩ := div_bd (u := F) (g := A) (B := 1000000000) ⟨by omega, by omega⟩ (by omega)
                    obtain ⟨d3, d4⟩ := div_bd (u := F) (g := B) (B := 1000000000) ⟨by omega, by omega⟩ (by omega)
                    obtain ⟨d5, d6⟩ := mul_bd (a := x) (b := F / A) (A := 9999) (B := 1000000000) ⟨by omega, by omega⟩ ⟨by omega, by omega⟩
                    obtain ⟨d7, d8⟩ := mul_bd (a := u) (b := F / B) (A := 9999) (B := 1000000000) ⟨by omega, by omega⟩ ⟨by omega, by omega⟩
                    obtain ⟨G, eG⟩ : ∃ G : Int → Int, G = fun q => x * σ 3 (64 * s + q) * (F / A) + u * σ 3 (64 * o + q) * (F / B) := ⟨_, rfl⟩
                    have hG : ∀ q, G q = x * σ 3 (64 * s + q) * (F / A) + u * σ 3 (64 * o + q) * (F / B) := fun q => by rw [eG]
                    have hGm : ∀ i j, G (n * i + j) = mxB σ s o x (lcS (y * σ 2 s) (v * σ 2 o) 1000000000 / (y * σ 2 s)) u (lcS (y * σ 2 s) (v * σ 2 o) 1000000000 / (v * σ 2 o)) i j := fun i j => by
                      have on : σ 1 o = n := by have := hl.2.2.2.2.2; omega
                      unfold mxB cB
                      rw [hG, ← eA, ← eB, hv, on, ← en, Int.add_assoc, Int.add_assoc (64 * o)]
                    clear eG
                    have fin : ∀ τ : eS, fr (fun c k => (c = 0 ∧ k = 4) ∨ c = 4) σ τ → iB1 τ → ∀ k, 0 ≤ k → k < n * n → 1000000000000000 < G k → ∃ z : Int, some (vi 0) = some (vi z) ∧ QM σ τ z ∧ XmB σ s x y o u v t τ z := fun τ f b1 k k0 kn hk => by
                      obtain ⟨i, j, a1, a2, a3, a4, a5⟩ := dm_n (by omega) k0 kn
                      refine ⟨0, rfl, ⟨f.mono (fun c k q => by simp only [rgM]; omega), b1, Or.inl rfl⟩, Or.inr ⟨hl, Or.inr ⟨by rw [← eA, ← eB, hv]; omega, Or.inl ⟨rfl, tbK_M f, i, j, a1, by omega, a3, by omega, ?_⟩⟩⟩⟩
                      rw [← hGm, ← a5]; exact hk
                    refine lpO2 (fun (k : Int) (_ : eS) => [some (vr 0), some (vi s), some (vi x), some (vi y), some (vi o), some (vi u), some (vi v), some (vi t), some (vl A), none, some (vl B), none, some (vl F), none, some (vi n), some (vi k), none, none, none, none]) (fun _ τ => τ) (fun k τ => 0 ≤ k ∧ k ≤ n * n ∧ fr (fun c k => (c = 0 ∧ k = 4) ∨ c = 4) σ τ ∧ (∀ j, 0 ≤ j → j < 64 → 0 ≤ τ 4 j) ∧ ∀ q, 0 ≤ q → q < k → τ 4 q = G q ∧ G q ≤ 1000000000000000) (fun k _ => (n * n - k).toNat) ?_ 0 σ ⟨by omega, by omega, fr.rf, hB.2.2, fun q a b => by omega⟩
                    rintro k τ ⟨i1, i2, i3, i4, i5⟩ ih
                    obtain ⟨b1, b2⟩ := iB1_M hB i3 i4
                    have fQ : fr rgM σ τ := i3.mono (fun c k q => by simp only [rgM]; omega)
                    refine ok_iload 79 rfl rfl rfl (ok_iload 80 rfl rfl rfl (ok_iload 81 rfl rfl rfl (ok_imul 82 rfl rfl (by first | omega | (simp [up_if]; omega) | (simp [up_if] at *; omega)) (ok_icmp_ge 83 254 rfl rfl rfl (fun h151 => ?_) (fun h151 => ?_)))))
                    · refine ok_aload_n 143 rfl rfl rfl (ok_lload 144 rfl rfl rfl (ok_putL 145 rfl rfl fl_X12_85 rfl rfl rfl rfl (ok_aload_n 146 rfl rfl rfl (ok_iload 147 rfl rfl rfl (ok_iload 148 rfl rfl rfl (ok_callVI (M' := M_Mo_takes) (as := [_, _]) 149 rfl rfl ml_X12_179 (s_Mo_takes ht ⟨by omega, by omega⟩ (by rw [up_same]; omega) (fun k a b => by rw [up_ne _ _ _ _ (by decide)]; exact i4 k a (by omega))) rfl rfl (Nat.le_of_ble_eq_true rfl) ⟨Nat.le_of_ble_eq_true rfl, Nat.le_of_ble_eq_true rfl⟩ rfl (Nat.le_of_ble_eq_true rfl) (fun σ' z hz => ?_)))))))
                      have hq := Qtk.M (b1.fr (fun c k q => by rw [up_ne _ _ _ _ (by omega)])) ht ⟨by omega, by omega⟩ (by rw [up_same]; omega) (fun k a b => by rw [up_ne _ _ _ _ (by decide)]; exact i4 k a (by omega)) hz
                      have hm := Qtk.B ⟨by omega, by omega⟩ (by rw [up_same]; omega) hz
                      rw [up_same] at hm
                      refine ok_zret 150 rfl rfl rfl (by have := hq.2.2; omega) ?_
                      refine ⟨_, rfl, hq.tr (fr_up fQ (by simp [rgM])), Or.inr ⟨hl, Or.inr ⟨by rw [← eA, ← eB, hv]; omega, Or.inr ⟨fun i j a1 a2 a3 a4 => ?_, ?_⟩⟩⟩⟩
                      · obtain ⟨y1, y2, y3, y4⟩ := ix8 (n := n) (i := i) (j := j) ⟨by omega, by omega⟩ ⟨by omega, by omega⟩ ⟨by omega, by omega⟩
                        rw [← hGm]
                        exact (i5 _ (by omega) (by omega)).2
                      · have hL : lcS (y * σ 2 s) (v * σ 2 o) 1000000000 = F := by rw [← eA, ← eB, hv]
                        have hm2 := MB_cg (f' := mxB σ s o x (lcS (y * σ 2 s) (v * σ 2 o) 1000000000 / (y * σ 2 s)) u (lcS (y * σ 2 s) (v * σ 2 o) 1000000000 / (v * σ 2 o))) hm (tbK_M (fr_up i3 (by omega))) (fun i j a1 a2 a3 a4 => by
                          obtain ⟨y1, y2, y3, y4⟩ := ix8 (n := n) (i := i) (j := j) ⟨by omega, by omega⟩ ⟨by omega, by omega⟩ ⟨by omega, by omega⟩
                          show up τ 0 4 _ 4 _ = _
                          rw [up_ne _ _ _ _ (by decide), ← hGm]
                          exact (i5 _ (by omega) (by omega)).1)
                        rw [← hL, en] at hm2
                        exact hm2
                    · have cs := b1.2.1 (64 * s + k) (by omega) (by omega)
                      have co := b1.2.1 (64 * o + k) (by omega) (by omega)
                      have hGk := hG k
                      rw [← i3 3 (64 * s + k) (by omega), ← i3 3 (64 * o + k) (by omega)] at hGk
                      have w1 : x * (F / A) * τ 3 (64 * s + k) = x * τ 3 (64 * s + k) * (F / A) := Int.mul_right_comm _ _ _
                      have w2 : u * (F / B) * τ 3 (64 * o + k) = u * τ 3 (64 * o + k) * (F / B) := Int.mul_right_comm _ _ _
                      have w3 := Int.mul_nonneg d5 cs.1
                      have w4 := Int.mul_nonneg d7 co.1
                      refine ok_iload_n 84 rfl rfl rfl (ok_i2l 85 rfl rfl (ok_lload 86 rfl rfl rfl (ok_lload 87 rfl rfl rfl (ok_ldiv 88 rfl rfl (by omega) (by omega) (ok_lmul 89 rfl rfl (by first | omega | (simp [up_if]; omega) | (simp [up_if] at *; omega)) (ok_aload_n 90 rfl rfl rfl (ok_getR 91 rfl rfl fl_X12_16 rfl rfl (ok_bipush 92 rfl rfl (by decide) (by decide) (ok_iload_n 93 rfl rfl rfl (ok_imul 94 rfl rfl (by first | omega | (simp [up_if]; omega) | (simp [up_if] at *; omega)) (ok_iload 95 rfl rfl rfl (ok_iadd 96 rfl rfl (by first | omega | (simp [up_if]; omega) | (simp [up_if] at *; omega)) (ok_iald 97 rfl rfl rfl (by first | omega | (simp [up_if]; omega) | (simp [up_if] at *; omega)) (ok_i2l 98 rfl rfl (ok_callSL (M' := M_Mo_grown) (as := [_, _]) 99 rfl rfl ml_X12_226 (s_Mo_grown ⟨by omega, by omega⟩ ⟨by omega, by omega⟩) ⟨Nat.le_of_ble_eq_true rfl, Nat.le_of_ble_eq_true rfl⟩ rfl (Nat.le_of_ble_eq_true rfl) (fun σ' p hp => ?_))))))))))))))))
                      obtain ⟨hs_, hp⟩ := hp
                      rw [hs_]; clear hs_ σ'
                      refine ok_lst16 100 rfl rfl rfl (ok_iload 101 rfl rfl rfl (ok_i2l 102 rfl rfl (ok_lload 103 rfl rfl rfl (ok_lload 104 rfl rfl rfl (ok_ldiv 105 rfl rfl (by omega) (by omega) (ok_lmul 106 rfl rfl (by first | omega | (simp [up_if]; omega) | (simp [up_if] at *; omega)) (ok_aload_n 107 rfl rfl rfl (ok_getR 108 rfl rfl fl_X12_16 rfl rfl (ok_bipush 109 rfl rfl (by decide) (by decide) (ok_iload 110 rfl rfl rfl (ok_imul 111 rfl rfl (by first | omega | (simp [up_if]; omega) | (simp [up_if] at *; omega)) (ok_iload 112 rfl rfl rfl (ok_iadd 113 rfl rfl (by first | omega | (simp [up_if]; omega) | (simp [up_if] at *; omega)) (ok_iald 114 rfl rfl rfl (by first | omega | (simp [up_if]; omega) | (simp [up_if] at *; omega)) (ok_i2l 115 rfl rfl (ok_callSL (M' := M_Mo_grown) (as := [_, _]) 116 rfl rfl ml_X12_226 (s_Mo_grown ⟨by omega, by omega⟩ ⟨by omega, by omega⟩) ⟨Nat.le_of_ble_eq_true rfl, Nat.le_of_ble_eq_true rfl⟩ rfl (Nat.le_of_ble_eq_true rfl) (fun σ' q hq => ?_)))))))))))))))))
                      obtain ⟨hs_, hq⟩ := hq
                      rw [hs_]; clear hs_ σ'
                      refine ok_lst18 117 rfl rfl rfl (ok_lload 118 rfl rfl rfl (ok_lconst (w := 0) 119 rfl rfl rfl (by decide) (ok_lcmp_lt 120 121 234 rfl rfl rfl rfl rfl (fun h211 => ?_) (fun h211 => ?_))))
                      · refine ok_iconst 132 rfl rfl (by decide) (ok_zret 133 rfl rfl rfl (by first | omega | (simp [up_if]; omega) | (simp [up_if] at *; omega)) ?_)
                        exact fin τ i3 b1 k i1 (by omega) (by omega)
                      · refine ok_lload 122 rfl rfl rfl (ok_lconst (w := 0) 123 rfl rfl rfl (by decide) (ok_lcmp_lt 124 125 234 rfl rfl rfl rfl rfl (fun h218 => ?_) (fun h218 => ?_)))
                        · refine ok_iconst 132 rfl rfl (by decide) (ok_zret 133 rfl rfl rfl (by first | omega | (simp [up_if]; omega) | (simp [up_if] at *; omega)) ?_)
                          exact fin τ i3 b1 k i1 (by omega) (by omega)
                        · refine ok_lload 126 rfl rfl rfl (ok_lload 127 rfl rfl rfl (ok_ladd 128 rfl rfl (by first | omega | (simp [up_if]; omega) | (simp [up_if] at *; omega)) (ok_ldc2 129 (1000000000000000) rfl rfl kc_X12_217 (by decide) (ok_lcmp_le 130 131 236 rfl rfl rfl rfl rfl (fun h230 => ?_) (fun h230 => ?_)))))
                          · refine ok_aload_n 134 rfl rfl rfl (ok_getR 135 rfl rfl fl_X12_19 rfl rfl (ok_iload 136 rfl rfl rfl (ok_lload 137 rfl rfl rfl (ok_lload 138 rfl rfl rfl (ok_ladd 139 rfl rfl (by first | omega | (simp [up_if]; omega) | (simp [up_if] at *; omega)) (ok_last 140 rfl rfl rfl (by first | omega | (simp [up_if]; omega) | (simp [up_if] at *; omega)) (ok_inc15 141 rfl rfl rfl (by first | omega | (simp [up_if]; omega) | (simp [up_if] at *; omega)) (ok_goto 142 144 rfl rfl rfl ?_))))))))
                            refine ok_fg [some (vr 0), some (vi s), some (vi x), some (vi y), some (vi o), some (vi u), some (vi v), some (vi t), some (vl A), none, some (vl B), none, some (vl F), none, some (vi n), some (vi (k + 1)), none, none, none, none] ⟨rfl, rfl, rfl, rfl, rfl, rfl, rfl, rfl, rfl, rfl, rfl, rfl, rfl, trivial⟩ (ih (k + 1) _ ⟨by omega, by omega, fr_up i3 (by simp), fun j a b => ?_, fun c a b => ?_⟩ (by omega))
                            · rw [up_if]
                              split
                              · omega
                              · exact i4 j a (by omega)
                            · rcases (by omega : c < k ∨ c = k) with w | w
                              · rw [up_nk _ _ _ _ (by omega)]; exact i5 c a w
                              · rw [w, up_same]; exact ⟨by omega, by omega⟩
                          · refine ok_iconst 132 rfl rfl (by decide) (ok_zret 133 rfl rfl rfl (by first | omega | (simp [up_if]; omega) | (simp [up_if] at *; omega)) ?_)
                            exact fin τ i3 b1 k i1 (by omega) (by omega)
                  · refine ok_iconst 70 rfl rfl (by decide) (ok_zret 71 rfl rfl rfl (by first | omega | (simp [up_if]; omega) | (simp [up_if] at *; omega)) ?_)
                    exact no2 (by rw [hv, if_pos (by omega)])
                · refine ok_iconst 56 rfl rfl (by decide) (ok_zret 57 rfl rfl rfl (by first | omega | (simp [up_if]; omega) | (simp [up_if] at *; omega)) ?_)
                  exact no2 (lcS_big (by omega) (by omega) (by omega))
            · refine ok_iconst 28 rfl rfl (by decide) (ok_zret 29 rfl rfl rfl (by first | omega | (simp [up_if]; omega) | (simp [up_if] at *; omega)) ?_)
              exact no _ (no1 a5 h56) (fun w q => w q.2.1)
def tuB (σ : eS) (s w r n : Int) : Int → Int → Int := fun i j => cB σ s (tnR w r n i j) (tnC w r n i j)
def XuB (σ : eS) (s w r t : Int) (σ' : eS) (z : Int) : Prop := (z = 0 ∧ tbK σ σ' ∧ ¬ okU (σ 1 s) s w r t) ∨ (okU (σ 1 s) s w r t ∧ MB σ t (σ 1 s) (σ 2 s) (tuB σ s w r (σ 1 s)) σ' z)
theorem t_Mo_turn {σ : eS} {s w r t : Int} (hB : iB1 σ) : MtI shB M_Mo_turn [vr 0, vi s, vi w, vi r, vi t] σ (fun σ' z => QM σ σ' z ∧ XuB σ s w r t σ' z) := by
  refine Mt.of okM_Mo_turn (Nat.le_of_ble_eq_true rfl) (fun hk hg => ?_)
  have main : tabB σ s → (0 ≤ t ∧ t < 4) → (0 ≤ w ∧ w ≤ 5) → (3 < w → 0 ≤ r ∧ r < σ 1 s) → Ok shB M_Mo_turn 53 [some (vr 0), some (vi s), some (vi w), some (vi r), some (vi t), none, none, none, none, none] [] σ (fun σ' v => ∃ z, v = some (vi z) ∧ QM σ σ' z ∧ XuB σ s w r t σ' z) := by
    intro hs ht hw hr
    have hU : okU (σ 1 s) s w r t := ⟨⟨hs.1, hs.2.1, by have := hs.2.2; omega⟩, ht, hw, hr⟩
    obtain ⟨s1, s2, s3⟩ := id hs
    obtain ⟨g1, g2, g3⟩ := hB.1 s s1 s2
    obtain ⟨n, en⟩ : ∃ x, x = σ 1 s := ⟨_, rfl⟩
    rw [← en] at hr g1 g2 g3 s3
    obtain ⟨x1, x2⟩ := sq8 (n := n) ⟨by omega, by omega⟩
    refine ok_aload_n 30 rfl rfl rfl (ok_getR 31 rfl rfl fl_X12_7 rfl rfl (ok_iload_n 32 rfl rfl rfl (ok_iald 33 rfl rfl rfl (by first | omega | (simp [up_if]; omega) | (simp [up_if] at *; omega)) (ok_ist5 34 rfl rfl rfl (ok_iconst 35 rfl rfl (by decide) (ok_ist6 36 rfl rfl rfl ?_))))))
    rw [← en]
    refine lpO2 (fun (i : Int) (_ : eS) => [some (vr 0), some (vi s), some (vi w), some (vi r), some (vi t), some (vi n), some (vi i), none, none, none]) (fun _ τ => τ) (fun i τ => 0 ≤ i ∧ i ≤ n ∧ fr (fun c k => (c = 0 ∧ k = 4) ∨ c = 4) σ τ ∧ (∀ k, 0 ≤ k → k < 64 → 0 ≤ τ 4 k) ∧ ∀ x y, 0 ≤ x → x < i → 0 ≤ y → y < n → τ 4 (n * tgR w r n x y + tgC w r n x y) = cB σ s x y) (fun i _ => (n - i).toNat) ?_ 0 σ ⟨by omega, by omega, fr.rf, hB.2.2, fun x y p q => by omega⟩
    rintro i τ ⟨i1, i2, i3, i4, i5⟩ ih
    refine ok_iload 37 rfl rfl rfl (ok_iload 38 rfl rfl rfl (ok_icmp_ge 39 206 rfl rfl rfl (fun h68 => ?_) (fun h68 => ?_)))
    · obtain ⟨b1, b2⟩ := iB1_M hB i3 i4
      have bs := (b2 s)
      refine ok_aload_n 111 rfl rfl rfl (ok_aload_n 112 rfl rfl rfl (ok_getR 113 rfl rfl fl_X12_13 rfl rfl (ok_iload_n 114 rfl rfl rfl (ok_iald 115 rfl rfl rfl (by first | omega | (simp [up_if]; omega) | (simp [up_if] at *; omega)) (ok_i2l 116 rfl rfl (ok_putL 117 rfl rfl fl_X12_85 rfl rfl rfl rfl (ok_aload_n 118 rfl rfl rfl (ok_iload 119 rfl rfl rfl (ok_iload 120 rfl rfl rfl (ok_callVI (M' := M_Mo_takes) (as := [_, _]) 121 rfl rfl ml_X12_179 (s_Mo_takes ht ⟨by omega, by omega⟩ (by rw [up_same]; omega) (fun k a b => by rw [up_ne _ _ _ _ (by decide)]; exact i4 k a (by omega))) rfl rfl (Nat.le_of_ble_eq_true rfl) ⟨Nat.le_of_ble_eq_true rfl, Nat.le_of_ble_eq_true rfl⟩ rfl (Nat.le_of_ble_eq_true rfl) (fun σ' z hz => ?_)))))))))))
      have hq := Qtk.M (b1.fr (fun c k q => by rw [up_ne _ _ _ _ (by omega)])) ht ⟨by omega, by omega⟩ (by rw [up_same]; omega) (fun k a b => by rw [up_ne _ _ _ _ (by decide)]; exact i4 k a (by omega)) hz
      have hm := Qtk.B ⟨by omega, by omega⟩ (by rw [up_same]; omega) hz
      rw [up_same, bs.2] at hm
      refine ok_zret 122 rfl rfl rfl (by have := hq.2.2; omega) ?_
      refine ⟨_, rfl, hq.tr (fr_up (i3.mono (fun c k q => by simp only [rgM]; omega)) (by simp [rgM])), Or.inr ⟨hU, ?_⟩⟩
      rw [← en]
      refine MB_cg hm (tbK_M (fr_up i3 (by omega))) (fun x y p q r' c => ?_)
      obtain ⟨t1, t2, t3, t4⟩ := tn_tg (n := n) hw hr ⟨p, q⟩ ⟨r', c⟩
      have := i5 (tnR w r n x y) (tnC w r n x y) t1.1 (by omega) t2.1 t2.2
      rw [t3, t4] at this
      show up τ 0 4 _ 4 _ = _
      rw [up_ne _ _ _ _ (by decide)]
      exact this
    · refine ok_iconst 40 rfl rfl (by decide) (ok_ist7 41 rfl rfl rfl ?_)
      have il : i < n := by omega
      refine lpO2 (fun (j : Int) (_ : eS) => [some (vr 0), some (vi s), some (vi w), some (vi r), some (vi t), some (vi n), some (vi i), some (vi j), none, none]) (fun _ τ => τ) (fun j τ => 0 ≤ j ∧ j ≤ n ∧ fr (fun c k => (c = 0 ∧ k = 4) ∨ c = 4) σ τ ∧ (∀ k, 0 ≤ k → k < 64 → 0 ≤ τ 4 k) ∧ ∀ x y, 0 ≤ x → 0 ≤ y → y < n → (x < i ∨ (x = i ∧ y < j)) → τ 4 (n * tgR w r n x y + tgC w r n x y) = cB σ s x y) (fun j _ => (n - j).toNat) ?_ 0 τ ⟨by omega, by omega, i3, i4, fun x y p q r w => i5 x y p (by omega) q r⟩
      clear i3 i4 i5 τ
      rintro j τ ⟨j1, j2, i3, i4, i5⟩ ih2
      obtain ⟨b1, b2⟩ := iB1_M hB i3 i4
      have tk := tbK_M i3
      have bs := (b2 s).1
      have inner : j < n → ∀ a b : Int, a = tgR w r n i j → b = tgC w r n i j → Ok shB M_Mo_turn 171 [some (vr 0), some (vi s), some (vi w), some (vi r), some (vi t), some (vi n), some (vi i), some (vi j), some (vi a), some (vi b)] [] τ (fun σ' v => ∃ z, v = some (vi z) ∧ QM σ σ' z ∧ XuB σ s w r t σ' z) := by
        intro hj a b ea eb
        have hi := tg_in (n := n) (i := i) (j := j) hw hr ⟨by omega, by omega⟩ ⟨by omega, by omega⟩
        rw [← ea, ← eb] at hi
        obtain ⟨ha, hb⟩ := hi
        obtain ⟨y1, y2, y3, y4⟩ := ix8 (n := n) (i := a) (j := b) ⟨by omega, by omega⟩ ha hb
        have hc := cB_bd b1 ⟨s1, s2⟩ (i := i) (j := j) ⟨by omega, by omega⟩ ⟨by omega, by omega⟩
        refine ok_aload_n 93 rfl rfl rfl (ok_getR 94 rfl rfl fl_X12_19 rfl rfl (ok_iload 95 rfl rfl rfl (ok_iload 96 rfl rfl rfl (ok_imul 97 rfl rfl (by first | omega | (simp [up_if]; omega) | (simp [up_if] at *; omega)) (ok_iload 98 rfl rfl rfl (ok_iadd 99 rfl rfl (by first | omega | (simp [up_if]; omega) | (simp [up_if] at *; omega)) (ok_aload_n 100 rfl rfl rfl (ok_iload_n 101 rfl rfl rfl (ok_iload 102 rfl rfl rfl (ok_iload 103 rfl rfl rfl (ok_callVI (M' := M_Mo_at) (as := [_, _, _]) 104 rfl rfl ml_X12_107 (s_Mo_at b1 ⟨s1, s2⟩ ⟨by omega, by omega⟩ ⟨by omega, by omega⟩) rfl rfl (Nat.le_of_ble_eq_true rfl) ⟨Nat.le_of_ble_eq_true rfl, Nat.le_of_ble_eq_true rfl⟩ rfl (Nat.le_of_ble_eq_true rfl) (fun σ' z hz => ?_))))))))))))
        rw [hz.1, hz.2]
        clear hz z σ'
        refine ok_i2l 105 rfl rfl (ok_last 106 rfl rfl rfl (by first | omega | (simp [up_if]; omega) | (simp [up_if] at *; omega)) (ok_inc7 107 rfl rfl rfl (by first | omega | (simp [up_if]; omega) | (simp [up_if] at *; omega)) (ok_goto 108 74 rfl rfl rfl ?_)))
        refine ok_fg [some (vr 0), some (vi s), some (vi w), some (vi r), some (vi t), some (vi n), some (vi i), some (vi (j + 1)), none, none] ⟨rfl, rfl, rfl, rfl, rfl, rfl, rfl, rfl, trivial⟩ (ih2 (j + 1) _ ⟨by omega, by omega, fr_up i3 (by simp), fun k a b => ?_, fun x y p q r' c => ?_⟩ (by omega))
        · rw [up_if]
          split
          · omega
          · exact i4 k a b
        · rcases (by omega : (x < i ∨ (x = i ∧ y < j)) ∨ (x = i ∧ y = j)) with c | c
          · have hxy := tg_in (n := n) (i := x) (j := y) hw hr ⟨by omega, by omega⟩ ⟨by omega, by omega⟩
            rw [up_nk _ _ _ _ (fun e => by
              have e2 := nx_inj hxy.2 hb e
              rw [ea, eb] at e2
              have := tg_inj (n := n) hw hr ⟨by omega, by omega⟩ ⟨by omega, by omega⟩ ⟨by omega, by omega⟩ ⟨by omega, by omega⟩ e2.1 e2.2
              omega)]
            exact i5 x y p q r' c
          · rw [c.1, c.2, ← ea, ← eb, up_same, cB_cg tk]
      refine ok_iload 42 rfl rfl rfl (ok_iload 43 rfl rfl rfl (ok_icmp_ge 44 200 rfl rfl rfl (fun h78 => ?_) (fun h78 => ?_)))
      · refine ok_inc6 109 rfl rfl rfl (by first | omega | (simp [up_if]; omega) | (simp [up_if] at *; omega)) (ok_goto 110 64 rfl rfl rfl ?_)
        exact ok_fg [some (vr 0), some (vi s), some (vi w), some (vi r), some (vi t), some (vi n), some (vi (i + 1)), none, none, none] ⟨rfl, rfl, rfl, rfl, rfl, rfl, rfl, trivial⟩ (ih (i + 1) τ ⟨by omega, by omega, i3, i4, fun x y p q r' c => i5 x y p r' c (by omega)⟩ (by omega))
      · refine ok_iload_n 45 rfl rfl rfl (ok_iconst 46 rfl rfl (by decide) (ok_icmp_ne 47 91 rfl rfl rfl (fun h83 => ?_) (fun h83 => ?_)))
        · refine ok_iload_n 50 rfl rfl rfl (ok_iconst 51 rfl rfl (by decide) (ok_icmp_ne 52 106 rfl rfl rfl (fun h93 => ?_) (fun h93 => ?_)))
          · refine ok_iload_n 59 rfl rfl rfl (ok_iconst 60 rfl rfl (by decide) (ok_icmp_ne 61 122 rfl rfl rfl (fun h108 => ?_) (fun h108 => ?_)))
            · refine ok_iload 67 rfl rfl rfl (ok_ist8 68 rfl rfl rfl (ok_iload_n 69 rfl rfl rfl (ok_iconst 70 rfl rfl (by decide) (ok_icmp_ne 71 136 rfl rfl rfl (fun h128 => ?_) (fun h128 => ?_)))))
              · refine ok_iload_n 74 rfl rfl rfl (ok_iconst 75 rfl rfl (by decide) (ok_icmp_ne 76 151 rfl rfl rfl (fun h138 => ?_) (fun h138 => ?_)))
                · refine ok_iload_n 83 rfl rfl rfl (ok_iconst 84 rfl rfl (by decide) (ok_icmp_ne 85 167 rfl rfl rfl (fun h153 => ?_) (fun h153 => ?_)))
                  · refine ok_iload 91 rfl rfl rfl (ok_ist9 92 rfl rfl rfl ?_)
                    first | exact inner (by omega) _ _ (tgR_0 h83 h93 h108) (tgC_0 h128 h138 h153) | exact inner (by omega) _ _ (tgR_0 h83 h93 h108) (tgC_1 h128) | exact inner (by omega) _ _ (tgR_0 h83 h93 h108) (tgC_3 h128 h138) | exact inner (by omega) _ _ (tgR_0 h83 h93 h108) (tgC_5 h128 h138 h153 q3) | exact inner (by omega) _ _ (tgR_1 h83) (tgC_0 h128 h138 h153) | exact inner (by omega) _ _ (tgR_1 h83) (tgC_1 h128) | exact inner (by omega) _ _ (tgR_1 h83) (tgC_3 h128 h138) | exact inner (by omega) _ _ (tgR_1 h83) (tgC_5 h128 h138 h153 q3) | exact inner (by omega) _ _ (tgR_2 h83 h93) (tgC_0 h128 h138 h153) | exact inner (by omega) _ _ (tgR_2 h83 h93) (tgC_1 h128) | exact inner (by omega) _ _ (tgR_2 h83 h93) (tgC_3 h128 h138) | exact inner (by omega) _ _ (tgR_2 h83 h93) (tgC_5 h128 h138 h153 q3) | exact inner (by omega) _ _ (tgR_4 h83 h93 h108 q1) (tgC_0 h128 h138 h153) | exact inner (by omega) _ _ (tgR_4 h83 h93 h108 q1) (tgC_1 h128) | exact inner (by omega) _ _ (tgR_4 h83 h93 h108 q1) (tgC_3 h128 h138) | exact inner (by omega) _ _ (tgR_4 h83 h93 h108 q1) (tgC_5 h128 h138 h153 q3)
                  · refine ok_iload 86 rfl rfl rfl (ok_iload_n 87 rfl rfl rfl (ok_iload 88 rfl rfl rfl (ok_callSI (M' := M_Mo_behind) (as := [_, _, _]) 89 rfl rfl ml_X12_231 (s_Mo_behind ⟨by omega, by omega, by omega, by omega⟩) ⟨Nat.le_of_ble_eq_true rfl, Nat.le_of_ble_eq_true rfl⟩ rfl (Nat.le_of_ble_eq_true rfl) (fun σ' z2 q3 => ?_))))
                    obtain ⟨hs_, q3⟩ := q3
                    rw [hs_]; clear hs_ σ'
                    refine ok_goto 90 169 rfl rfl rfl (ok_ist9 92 rfl rfl rfl ?_)
                    first | exact inner (by omega) _ _ (tgR_0 h83 h93 h108) (tgC_0 h128 h138 h153) | exact inner (by omega) _ _ (tgR_0 h83 h93 h108) (tgC_1 h128) | exact inner (by omega) _ _ (tgR_0 h83 h93 h108) (tgC_3 h128 h138) | exact inner (by omega) _ _ (tgR_0 h83 h93 h108) (tgC_5 h128 h138 h153 q3) | exact inner (by omega) _ _ (tgR_1 h83) (tgC_0 h128 h138 h153) | exact inner (by omega) _ _ (tgR_1 h83) (tgC_1 h128) | exact inner (by omega) _ _ (tgR_1 h83) (tgC_3 h128 h138) | exact inner (by omega) _ _ (tgR_1 h83) (tgC_5 h128 h138 h153 q3) | exact inner (by omega) _ _ (tgR_2 h83 h93) (tgC_0 h128 h138 h153) | exact inner (by omega) _ _ (tgR_2 h83 h93) (tgC_1 h128) | exact inner (by omega) _ _ (tgR_2 h83 h93) (tgC_3 h128 h138) | exact inner (by omega) _ _ (tgR_2 h83 h93) (tgC_5 h128 h138 h153 q3) | exact inner (by omega) _ _ (tgR_4 h83 h93 h108 q1) (tgC_0 h128 h138 h153) | exact inner (by omega) _ _ (tgR_4 h83 h93 h108 q1) (tgC_1 h128) | exact inner (by omega) _ _ (tgR_4 h83 h93 h108 q1) (tgC_3 h128 h138) | exact inner (by omega) _ _ (tgR_4 h83 h93 h108 q1) (tgC_5 h128 h138 h153 q3)
                · refine ok_iload 77 rfl rfl rfl (ok_iconst 78 rfl rfl (by decide) (ok_isub 79 rfl rfl (by first | omega | (simp [up_if]; omega) | (simp [up_if] at *; omega)) (ok_iload 80 rfl rfl rfl (ok_isub 81 rfl rfl (by first | omega | (simp [up_if]; omega) | (simp [up_if] at *; omega)) (ok_goto 82 169 rfl rfl rfl (ok_ist9 92 rfl rfl rfl ?_))))))
                  first | exact inner (by omega) _ _ (tgR_0 h83 h93 h108) (tgC_0 h128 h138 h153) | exact inner (by omega) _ _ (tgR_0 h83 h93 h108) (tgC_1 h128) | exact inner (by omega) _ _ (tgR_0 h83 h93 h108) (tgC_3 h128 h138) | exact inner (by omega) _ _ (tgR_0 h83 h93 h108) (tgC_5 h128 h138 h153 q3) | exact inner (by omega) _ _ (tgR_1 h83) (tgC_0 h128 h138 h153) | exact inner (by omega) _ _ (tgR_1 h83) (tgC_1 h128) | exact inner (by omega) _ _ (tgR_1 h83) (tgC_3 h128 h138) | exact inner (by omega) _ _ (tgR_1 h83) (tgC_5 h128 h138 h153 q3) | exact inner (by omega) _ _ (tgR_2 h83 h93) (tgC_0 h128 h138 h153) | exact inner (by omega) _ _ (tgR_2 h83 h93) (tgC_1 h128) | exact inner (by omega) _ _ (tgR_2 h83 h93) (tgC_3 h128 h138) | exact inner (by omega) _ _ (tgR_2 h83 h93) (tgC_5 h128 h138 h153 q3) | exact inner (by omega) _ _ (tgR_4 h83 h93 h108 q1) (tgC_0 h128 h138 h153) | exact inner (by omega) _ _ (tgR_4 h83 h93 h108 q1) (tgC_1 h128) | exact inner (by omega) _ _ (tgR_4 h83 h93 h108 q1) (tgC_3 h128 h138) | exact inner (by omega) _ _ (tgR_4 h83 h93 h108 q1) (tgC_5 h128 h138 h153 q3)
              · refine ok_iload 72 rfl rfl rfl (ok_goto 73 169 rfl rfl rfl (ok_ist9 92 rfl rfl rfl ?_))
                first | exact inner (by omega) _ _ (tgR_0 h83 h93 h108) (tgC_0 h128 h138 h153) | exact inner (by omega) _ _ (tgR_0 h83 h93 h108) (tgC_1 h128) | exact inner (by omega) _ _ (tgR_0 h83 h93 h108) (tgC_3 h128 h138) | exact inner (by omega) _ _ (tgR_0 h83 h93 h108) (tgC_5 h128 h138 h153 q3) | exact inner (by omega) _ _ (tgR_1 h83) (tgC_0 h128 h138 h153) | exact inner (by omega) _ _ (tgR_1 h83) (tgC_1 h128) | exact inner (by omega) _ _ (tgR_1 h83) (tgC_3 h128 h138) | exact inner (by omega) _ _ (tgR_1 h83) (tgC_5 h128 h138 h153 q3) | exact inner (by omega) _ _ (tgR_2 h83 h93) (tgC_0 h128 h138 h153) | exact inner (by omega) _ _ (tgR_2 h83 h93) (tgC_1 h128) | exact inner (by omega) _ _ (tgR_2 h83 h93) (tgC_3 h128 h138) | exact inner (by omega) _ _ (tgR_2 h83 h93) (tgC_5 h128 h138 h153 q3) | exact inner (by omega) _ _ (tgR_4 h83 h93 h108 q1) (tgC_0 h128 h138 h153) | exact inner (by omega) _ _ (tgR_4 h83 h93 h108 q1) (tgC_1 h128) | exact inner (by omega) _ _ (tgR_4 h83 h93 h108 q1) (tgC_3 h128 h138) | exact inner (by omega) _ _ (tgR_4 h83 h93 h108 q1) (tgC_5 h128 h138 h153 q3)
            · refine ok_iload 62 rfl rfl rfl (ok_iload_n 63 rfl rfl rfl (ok_iload 64 rfl rfl rfl (ok_callSI (M' := M_Mo_behind) (as := [_, _, _]) 65 rfl rfl ml_X12_231 (s_Mo_behind ⟨by omega, by omega, by omega, by omega⟩) ⟨Nat.le_of_ble_eq_true rfl, Nat.le_of_ble_eq_true rfl⟩ rfl (Nat.le_of_ble_eq_true rfl) (fun σ' z1 q1 => ?_))))
              obtain ⟨hs_, q1⟩ := q1
              rw [hs_]; clear hs_ σ'
              refine ok_goto 66 124 rfl rfl rfl (ok_ist8 68 rfl rfl rfl (ok_iload_n 69 rfl rfl rfl (ok_iconst 70 rfl rfl (by decide) (ok_icmp_ne 71 136 rfl rfl rfl (fun h128 => ?_) (fun h128 => ?_)))))
              · refine ok_iload_n 74 rfl rfl rfl (ok_iconst 75 rfl rfl (by decide) (ok_icmp_ne 76 151 rfl rfl rfl (fun h138 => ?_) (fun h138 => ?_)))
                · refine ok_iload_n 83 rfl rfl rfl (ok_iconst 84 rfl rfl (by decide) (ok_icmp_ne 85 167 rfl rfl rfl (fun h153 => ?_) (fun h153 => ?_)))
                  · refine ok_iload 91 rfl rfl rfl (ok_ist9 92 rfl rfl rfl ?_)
                    first | exact inner (by omega) _ _ (tgR_0 h83 h93 h108) (tgC_0 h128 h138 h153) | exact inner (by omega) _ _ (tgR_0 h83 h93 h108) (tgC_1 h128) | exact inner (by omega) _ _ (tgR_0 h83 h93 h108) (tgC_3 h128 h138) | exact inner (by omega) _ _ (tgR_0 h83 h93 h108) (tgC_5 h128 h138 h153 q3) | exact inner (by omega) _ _ (tgR_1 h83) (tgC_0 h128 h138 h153) | exact inner (by omega) _ _ (tgR_1 h83) (tgC_1 h128) | exact inner (by omega) _ _ (tgR_1 h83) (tgC_3 h128 h138) | exact inner (by omega) _ _ (tgR_1 h83) (tgC_5 h128 h138 h153 q3) | exact inner (by omega) _ _ (tgR_2 h83 h93) (tgC_0 h128 h138 h153) | exact inner (by omega) _ _ (tgR_2 h83 h93) (tgC_1 h128) | exact inner (by omega) _ _ (tgR_2 h83 h93) (tgC_3 h128 h138) | exact inner (by omega) _ _ (tgR_2 h83 h93) (tgC_5 h128 h138 h153 q3) | exact inner (by omega) _ _ (tgR_4 h83 h93 h108 q1) (tgC_0 h128 h138 h153) | exact inner (by omega) _ _ (tgR_4 h83 h93 h108 q1) (tgC_1 h128) | exact inner (by omega) _ _ (tgR_4 h83 h93 h108 q1) (tgC_3 h128 h138) | exact inner (by omega) _ _ (tgR_4 h83 h93 h108 q1) (tgC_5 h128 h138 h153 q3)
                  · refine ok_iload 86 rfl rfl rfl (ok_iload_n 87 rfl rfl rfl (ok_iload 88 rfl rfl rfl (ok_callSI (M' := M_Mo_behind) (as := [_, _, _]) 89 rfl rfl ml_X12_231 (s_Mo_behind ⟨by omega, by omega, by omega, by omega⟩) ⟨Nat.le_of_ble_eq_true rfl, Nat.le_of_ble_eq_true rfl⟩ rfl (Nat.le_of_ble_eq_true rfl) (fun σ' z2 q3 => ?_))))
                    obtain ⟨hs_, q3⟩ := q3
                    rw [hs_]; clear hs_ σ'
                    refine ok_goto 90 169 rfl rfl rfl (ok_ist9 92 rfl rfl rfl ?_)
                    first | exact inner (by omega) _ _ (tgR_0 h83 h93 h108) (tgC_0 h128 h138 h153) | exact inner (by omega) _ _ (tgR_0 h83 h93 h108) (tgC_1 h128) | exact inner (by omega) _ _ (tgR_0 h83 h93 h108) (tgC_3 h128 h138) | exact inner (by omega) _ _ (tgR_0 h83 h93 h108) (tgC_5 h128 h138 h153 q3) | exact inner (by omega) _ _ (tgR_1 h83) (tgC_0 h128 h138 h153) | exact inner (by omega) _ _ (tgR_1 h83) (tgC_1 h128) | exact inner (by omega) _ _ (tgR_1 h83) (tgC_3 h128 h138) | exact inner (by omega) _ _ (tgR_1 h83) (tgC_5 h128 h138 h153 q3) | exact inner (by omega) _ _ (tgR_2 h83 h93) (tgC_0 h128 h138 h153) | exact inner (by omega) _ _ (tgR_2 h83 h93) (tgC_1 h128) | exact inner (by omega) _ _ (tgR_2 h83 h93) (tgC_3 h128 h138) | exact inner (by omega) _ _ (tgR_2 h83 h93) (tgC_5 h128 h138 h153 q3) | exact inner (by omega) _ _ (tgR_4 h83 h93 h108 q1) (tgC_0 h128 h138 h153) | exact inner (by omega) _ _ (tgR_4 h83 h93 h108 q1) (tgC_1 h128) | exact inner (by omega) _ _ (tgR_4 h83 h93 h108 q1) (tgC_3 h128 h138) | exact inner (by omega) _ _ (tgR_4 h83 h93 h108 q1) (tgC_5 h128 h138 h153 q3)
                · refine ok_iload 77 rfl rfl rfl (ok_iconst 78 rfl rfl (by decide) (ok_isub 79 rfl rfl (by first | omega | (simp [up_if]; omega) | (simp [up_if] at *; omega)) (ok_iload 80 rfl rfl rfl (ok_isub 81 rfl rfl (by first | omega | (simp [up_if]; omega) | (simp [up_if] at *; omega)) (ok_goto 82 169 rfl rfl rfl (ok_ist9 92 rfl rfl rfl ?_))))))
                  first | exact inner (by omega) _ _ (tgR_0 h83 h93 h108) (tgC_0 h128 h138 h153) | exact inner (by omega) _ _ (tgR_0 h83 h93 h108) (tgC_1 h128) | exact inner (by omega) _ _ (tgR_0 h83 h93 h108) (tgC_3 h128 h138) | exact inner (by omega) _ _ (tgR_0 h83 h93 h108) (tgC_5 h128 h138 h153 q3) | exact inner (by omega) _ _ (tgR_1 h83) (tgC_0 h128 h138 h153) | exact inner (by omega) _ _ (tgR_1 h83) (tgC_1 h128) | exact inner (by omega) _ _ (tgR_1 h83) (tgC_3 h128 h138) | exact inner (by omega) _ _ (tgR_1 h83) (tgC_5 h128 h138 h153 q3) | exact inner (by omega) _ _ (tgR_2 h83 h93) (tgC_0 h128 h138 h153) | exact inner (by omega) _ _ (tgR_2 h83 h93) (tgC_1 h128) | exact inner (by omega) _ _ (tgR_2 h83 h93) (tgC_3 h128 h138) | exact inner (by omega) _ _ (tgR_2 h83 h93) (tgC_5 h128 h138 h153 q3) | exact inner (by omega) _ _ (tgR_4 h83 h93 h108 q1) (tgC_0 h128 h138 h153) | exact inner (by omega) _ _ (tgR_4 h83 h93 h108 q1) (tgC_1 h128) | exact inner (by omega) _ _ (tgR_4 h83 h93 h108 q1) (tgC_3 h128 h138) | exact inner (by omega) _ _ (tgR_4 h83 h93 h108 q1) (tgC_5 h128 h138 h153 q3)
              · refine ok_iload 72 rfl rfl rfl (ok_goto 73 169 rfl rfl rfl (ok_ist9 92 rfl rfl rfl ?_))
                first | exact inner (by omega) _ _ (tgR_0 h83 h93 h108) (tgC_0 h128 h138 h153) | exact inner (by omega) _ _ (tgR_0 h83 h93 h108) (tgC_1 h128) | exact inner (by omega) _ _ (tgR_0 h83 h93 h108) (tgC_3 h128 h138) | exact inner (by omega) _ _ (tgR_0 h83 h93 h108) (tgC_5 h128 h138 h153 q3) | exact inner (by omega) _ _ (tgR_1 h83) (tgC_0 h128 h138 h153) | exact inner (by omega) _ _ (tgR_1 h83) (tgC_1 h128) | exact inner (by omega) _ _ (tgR_1 h83) (tgC_3 h128 h138) | exact inner (by omega) _ _ (tgR_1 h83) (tgC_5 h128 h138 h153 q3) | exact inner (by omega) _ _ (tgR_2 h83 h93) (tgC_0 h128 h138 h153) | exact inner (by omega) _ _ (tgR_2 h83 h93) (tgC_1 h128) | exact inner (by omega) _ _ (tgR_2 h83 h93) (tgC_3 h128 h138) | exact inner (by omega) _ _ (tgR_2 h83 h93) (tgC_5 h128 h138 h153 q3) | exact inner (by omega) _ _ (tgR_4 h83 h93 h108 q1) (tgC_0 h128 h138 h153) | exact inner (by omega) _ _ (tgR_4 h83 h93 h108 q1) (tgC_1 h128) | exact inner (by omega) _ _ (tgR_4 h83 h93 h108 q1) (tgC_3 h128 h138) | exact inner (by omega) _ _ (tgR_4 h83 h93 h108 q1) (tgC_5 h128 h138 h153 q3)
          · refine ok_iload 53 rfl rfl rfl (ok_iconst 54 rfl rfl (by decide) (ok_isub 55 rfl rfl (by first | omega | (simp [up_if]; omega) | (simp [up_if] at *; omega)) (ok_iload 56 rfl rfl rfl (ok_isub 57 rfl rfl (by first | omega | (simp [up_if]; omega) | (simp [up_if] at *; omega)) (ok_goto 58 124 rfl rfl rfl (ok_ist8 68 rfl rfl rfl (ok_iload_n 69 rfl rfl rfl (ok_iconst 70 rfl rfl (by decide) (ok_icmp_ne 71 136 rfl rfl rfl (fun h128 => ?_) (fun h128 => ?_))))))))))
            · refine ok_iload_n 74 rfl rfl rfl (ok_iconst 75 rfl rfl (by decide) (ok_icmp_ne 76 151 rfl rfl rfl (fun h138 => ?_) (fun h138 => ?_)))
              · refine ok_iload_n 83 rfl rfl rfl (ok_iconst 84 rfl rfl (by decide) (ok_icmp_ne 85 167 rfl rfl rfl (fun h153 => ?_) (fun h153 => ?_)))
                · refine ok_iload 91 rfl rfl rfl (ok_ist9 92 rfl rfl rfl ?_)
                  first | exact inner (by omega) _ _ (tgR_0 h83 h93 h108) (tgC_0 h128 h138 h153) | exact inner (by omega) _ _ (tgR_0 h83 h93 h108) (tgC_1 h128) | exact inner (by omega) _ _ (tgR_0 h83 h93 h108) (tgC_3 h128 h138) | exact inner (by omega) _ _ (tgR_0 h83 h93 h108) (tgC_5 h128 h138 h153 q3) | exact inner (by omega) _ _ (tgR_1 h83) (tgC_0 h128 h138 h153) | exact inner (by omega) _ _ (tgR_1 h83) (tgC_1 h128) | exact inner (by omega) _ _ (tgR_1 h83) (tgC_3 h128 h138) | exact inner (by omega) _ _ (tgR_1 h83) (tgC_5 h128 h138 h153 q3) | exact inner (by omega) _ _ (tgR_2 h83 h93) (tgC_0 h128 h138 h153) | exact inner (by omega) _ _ (tgR_2 h83 h93) (tgC_1 h128) | exact inner (by omega) _ _ (tgR_2 h83 h93) (tgC_3 h128 h138) | exact inner (by omega) _ _ (tgR_2 h83 h93) (tgC_5 h128 h138 h153 q3) | exact inner (by omega) _ _ (tgR_4 h83 h93 h108 q1) (tgC_0 h128 h138 h153) | exact inner (by omega) _ _ (tgR_4 h83 h93 h108 q1) (tgC_1 h128) | exact inner (by omega) _ _ (tgR_4 h83 h93 h108 q1) (tgC_3 h128 h138) | exact inner (by omega) _ _ (tgR_4 h83 h93 h108 q1) (tgC_5 h128 h138 h153 q3)
                · refine ok_iload 86 rfl rfl rfl (ok_iload_n 87 rfl rfl rfl (ok_iload 88 rfl rfl rfl (ok_callSI (M' := M_Mo_behind) (as := [_, _, _]) 89 rfl rfl ml_X12_231 (s_Mo_behind ⟨by omega, by omega, by omega, by omega⟩) ⟨Nat.le_of_ble_eq_true rfl, Nat.le_of_ble_eq_true rfl⟩ rfl (Nat.le_of_ble_eq_true rfl) (fun σ' z2 q3 => ?_))))
                  obtain ⟨hs_, q3⟩ := q3
                  rw [hs_]; clear hs_ σ'
                  refine ok_goto 90 169 rfl rfl rfl (ok_ist9 92 rfl rfl rfl ?_)
                  first | exact inner (by omega) _ _ (tgR_0 h83 h93 h108) (tgC_0 h128 h138 h153) | exact inner (by omega) _ _ (tgR_0 h83 h93 h108) (tgC_1 h128) | exact inner (by omega) _ _ (tgR_0 h83 h93 h108) (tgC_3 h128 h138) | exact inner (by omega) _ _ (tgR_0 h83 h93 h108) (tgC_5 h128 h138 h153 q3) | exact inner (by omega) _ _ (tgR_1 h83) (tgC_0 h128 h138 h153) | exact inner (by omega) _ _ (tgR_1 h83) (tgC_1 h128) | exact inner (by omega) _ _ (tgR_1 h83) (tgC_3 h128 h138) | exact inner (by omega) _ _ (tgR_1 h83) (tgC_5 h128 h138 h153 q3) | exact inner (by omega) _ _ (tgR_2 h83 h93) (tgC_0 h128 h138 h153) | exact inner (by omega) _ _ (tgR_2 h83 h93) (tgC_1 h128) | exact inner (by omega) _ _ (tgR_2 h83 h93) (tgC_3 h128 h138) | exact inner (by omega) _ _ (tgR_2 h83 h93) (tgC_5 h128 h138 h153 q3) | exact inner (by omega) _ _ (tgR_4 h83 h93 h108 q1) (tgC_0 h128 h138 h153) | exact inner (by omega) _ _ (tgR_4 h83 h93 h108 q1) (tgC_1 h128) | exact inner (by omega) _ _ (tgR_4 h83 h93 h108 q1) (tgC_3 h128 h138) | exact inner (by omega) _ _ (tgR_4 h83 h93 h108 q1) (tgC_5 h128 h138 h153 q3)
              · refine ok_iload 77 rfl rfl rfl (ok_iconst 78 rfl rfl (by decide) (ok_isub 79 rfl rfl (by first | omega | (simp [up_if]; omega) | (simp [up_if] at *; omega)) (ok_iload 80 rfl rfl rfl (ok_isub 81 rfl rfl (by first | omega | (simp [up_if]; omega) | (simp [up_if] at *; omega)) (ok_goto 82 169 rfl rfl rfl (ok_ist9 92 rfl rfl rfl ?_))))))
                first | exact inner (by omega) _ _ (tgR_0 h83 h93 h108) (tgC_0 h128 h138 h153) | exact inner (by omega) _ _ (tgR_0 h83 h93 h108) (tgC_1 h128) | exact inner (by omega) _ _ (tgR_0 h83 h93 h108) (tgC_3 h128 h138) | exact inner (by omega) _ _ (tgR_0 h83 h93 h108) (tgC_5 h128 h138 h153 q3) | exact inner (by omega) _ _ (tgR_1 h83) (tgC_0 h128 h138 h153) | exact inner (by omega) _ _ (tgR_1 h83) (tgC_1 h128) | exact inner (by omega) _ _ (tgR_1 h83) (tgC_3 h128 h138) | exact inner (by omega) _ _ (tgR_1 h83) (tgC_5 h128 h138 h153 q3) | exact inner (by omega) _ _ (tgR_2 h83 h93) (tgC_0 h128 h138 h153) | exact inner (by omega) _ _ (tgR_2 h83 h93) (tgC_1 h128) | exact inner (by omega) _ _ (tgR_2 h83 h93) (tgC_3 h128 h138) | exact inner (by omega) _ _ (tgR_2 h83 h93) (tgC_5 h128 h138 h153 q3) | exact inner (by omega) _ _ (tgR_4 h83 h93 h108 q1) (tgC_0 h128 h138 h153) | exact inner (by omega) _ _ (tgR_4 h83 h93 h108 q1) (tgC_1 h128) | exact inner (by omega) _ _ (tgR_4 h83 h93 h108 q1) (tgC_3 h128 h138) | exact inner (by omega) _ _ (tgR_4 h83 h93 h108 q1) (tgC_5 h128 h138 h153 q3)
            · refine ok_iload 72 rfl rfl rfl (ok_goto 73 169 rfl rfl rfl (ok_ist9 92 rfl rfl rfl ?_))
              first | exact inner (by omega) _ _ (tgR_0 h83 h93 h108) (tgC_0 h128 h138 h153) | exact inner (by omega) _ _ (tgR_0 h83 h93 h108) (tgC_1 h128) | exact inner (by omega) _ _ (tgR_0 h83 h93 h108) (tgC_3 h128 h138) | exact inner (by omega) _ _ (tgR_0 h83 h93 h108) (tgC_5 h128 h138 h153 q3) | exact inner (by omega) _ _ (tgR_1 h83) (tgC_0 h128 h138 h153) | exact inner (by omega) _ _ (tgR_1 h83) (tgC_1 h128) | exact inner (by omega) _ _ (tgR_1 h83) (tgC_3 h128 h138) | exact inner (by omega) _ _ (tgR_1 h83) (tgC_5 h128 h138 h153 q3) | exact inner (by omega) _ _ (tgR_2 h83 h93) (tgC_0 h128 h138 h153) | exact inner (by omega) _ _ (tgR_2 h83 h93) (tgC_1 h128) | exact inner (by omega) _ _ (tgR_2 h83 h93) (tgC_3 h128 h138) | exact inner (by omega) _ _ (tgR_2 h83 h93) (tgC_5 h128 h138 h153 q3) | exact inner (by omega) _ _ (tgR_4 h83 h93 h108 q1) (tgC_0 h128 h138 h153) | exact inner (by omega) _ _ (tgR_4 h83 h93 h108 q1) (tgC_1 h128) | exact inner (by omega) _ _ (tgR_4 h83 h93 h108 q1) (tgC_3 h128 h138) | exact inner (by omega) _ _ (tgR_4 h83 h93 h108 q1) (tgC_5 h128 h138 h153 q3)
        · refine ok_iload 48 rfl rfl rfl (ok_goto 49 124 rfl rfl rfl (ok_ist8 68 rfl rfl rfl (ok_iload_n 69 rfl rfl rfl (ok_iconst 70 rfl rfl (by decide) (ok_icmp_ne 71 136 rfl rfl rfl (fun h128 => ?_) (fun h128 => ?_))))))
          · refine ok_iload_n 74 rfl rfl rfl (ok_iconst 75 rfl rfl (by decide) (ok_icmp_ne 76 151 rfl rfl rfl (fun h138 => ?_) (fun h138 => ?_)))
            · refine ok_iload_n 83 rfl rfl rfl (ok_iconst 84 rfl rfl (by decide) (ok_icmp_ne 85 167 rfl rfl rfl (fun h153 => ?_) (fun h153 => ?_)))
              · refine ok_iload 91 rfl rfl rfl (ok_ist9 92 rfl rfl rfl ?_)
                first | exact inner (by omega) _ _ (tgR_0 h83 h93 h108) (tgC_0 h128 h138 h153) | exact inner (by omega) _ _ (tgR_0 h83 h93 h108) (tgC_1 h128) | exact inner (by omega) _ _ (tgR_0 h83 h93 h108) (tgC_3 h128 h138) | exact inner (by omega) _ _ (tgR_0 h83 h93 h108) (tgC_5 h128 h138 h153 q3) | exact inner (by omega) _ _ (tgR_1 h83) (tgC_0 h128 h138 h153) | exact inner (by omega) _ _ (tgR_1 h83) (tgC_1 h128) | exact inner (by omega) _ _ (tgR_1 h83) (tgC_3 h128 h138) | exact inner (by omega) _ _ (tgR_1 h83) (tgC_5 h128 h138 h153 q3) | exact inner (by omega) _ _ (tgR_2 h83 h93) (tgC_0 h128 h138 h153) | exact inner (by omega) _ _ (tgR_2 h83 h93) (tgC_1 h128) | exact inner (by omega) _ _ (tgR_2 h83 h93) (tgC_3 h128 h138) | exact inner (by omega) _ _ (tgR_2 h83 h93) (tgC_5 h128 h138 h153 q3) | exact inner (by omega) _ _ (tgR_4 h83 h93 h108 q1) (tgC_0 h128 h138 h153) | exact inner (by omega) _ _ (tgR_4 h83 h93 h108 q1) (tgC_1 h128) | exact inner (by omega) _ _ (tgR_4 h83 h93 h108 q1) (tgC_3 h128 h138) | exact inner (by omega) _ _ (tgR_4 h83 h93 h108 q1) (tgC_5 h128 h138 h153 q3)
              · refine ok_iload 86 rfl rfl rfl (ok_iload_n 87 rfl rfl rfl (ok_iload 88 rfl rfl rfl (ok_callSI (M' := M_Mo_behind) (as := [_, _, _]) 89 rfl rfl ml_X12_231 (s_Mo_behind ⟨by omega, by omega, by omega, by omega⟩) ⟨Nat.le_of_ble_eq_true rfl, Nat.le_of_ble_eq_true rfl⟩ rfl (Nat.le_of_ble_eq_true rfl) (fun σ' z2 q3 => ?_))))
                obtain ⟨hs_, q3⟩ := q3
                rw [hs_]; clear hs_ σ'
                refine ok_goto 90 169 rfl rfl rfl (ok_ist9 92 rfl rfl rfl ?_)
                first | exact inner (by omega) _ _ (tgR_0 h83 h93 h108) (tgC_0 h128 h138 h153) | exact inner (by omega) _ _ (tgR_0 h83 h93 h108) (tgC_1 h128) | exact inner (by omega) _ _ (tgR_0 h83 h93 h108) (tgC_3 h128 h138) | exact inner (by omega) _ _ (tgR_0 h83 h93 h108) (tgC_5 h128 h138 h153 q3) | exact inner (by omega) _ _ (tgR_1 h83) (tgC_0 h128 h138 h153) | exact inner (by omega) _ _ (tgR_1 h83) (tgC_1 h128) | exact inner (by omega) _ _ (tgR_1 h83) (tgC_3 h128 h138) | exact inner (by omega) _ _ (tgR_1 h83) (tgC_5 h128 h138 h153 q3) | exact inner (by omega) _ _ (tgR_2 h83 h93) (tgC_0 h128 h138 h153) | exact inner (by omega) _ _ (tgR_2 h83 h93) (tgC_1 h128) | exact inner (by omega) _ _ (tgR_2 h83 h93) (tgC_3 h128 h138) | exact inner (by omega) _ _ (tgR_2 h83 h93) (tgC_5 h128 h138 h153 q3) | exact inner (by omega) _ _ (tgR_4 h83 h93 h108 q1) (tgC_0 h128 h138 h153) | exact inner (by omega) _ _ (tgR_4 h83 h93 h108 q1) (tgC_1 h128) | exact inner (by omega) _ _ (tgR_4 h83 h93 h108 q1) (tgC_3 h128 h138) | exact inner (by omega) _ _ (tgR_4 h83 h93 h108 q1) (tgC_5 h128 h138 h153 q3)
            · refine ok_iload 77 rfl rfl rfl (ok_iconst 78 rfl rfl (by decide) (ok_isub 79 rfl rfl (by first | omega | (simp [up_if]; omega) | (simp [up_if] at *; omega)) (ok_iload 80 rfl rfl rfl (ok_isub 81 rfl rfl (by first | omega | (simp [up_if]; omega) | (simp [up_if] at *; omega)) (ok_goto 82 169 rfl rfl rfl (ok_ist9 92 rfl rfl rfl ?_))))))
              first | exact inner (by omega) _ _ (tgR_0 h83 h93 h108) (tgC_0 h128 h138 h153) | exact inner (by omega) _ _ (tgR_0 h83 h93 h108) (tgC_1 h128) | exact inner (by omega) _ _ (tgR_0 h83 h93 h108) (tgC_3 h128 h138) | exact inner (by omega) _ _ (tgR_0 h83 h93 h108) (tgC_5 h128 h138 h153 q3) | exact inner (by omega) _ _ (tgR_1 h83) (tgC_0 h128 h138 h153) | exact inner (by omega) _ _ (tgR_1 h83) (tgC_1 h128) | exact inner (by omega) _ _ (tgR_1 h83) (tgC_3 h128 h138) | exact inner (by omega) _ _ (tgR_1 h83) (tgC_5 h128 h138 h153 q3) | exact inner (by omega) _ _ (tgR_2 h83 h93) (tgC_0 h128 h138 h153) | exact inner (by omega) _ _ (tgR_2 h83 h93) (tgC_1 h128) | exact inner (by omega) _ _ (tgR_2 h83 h93) (tgC_3 h128 h138) | exact inner (by omega) _ _ (tgR_2 h83 h93) (tgC_5 h128 h138 h153 q3) | exact inner (by omega) _ _ (tgR_4 h83 h93 h108 q1) (tgC_0 h128 h138 h153) | exact inner (by omega) _ _ (tgR_4 h83 h93 h108 q1) (tgC_1 h128) | exact inner (by omega) _ _ (tgR_4 h83 h93 h108 q1) (tgC_3 h128 h138) | exact inner (by omega) _ _ (tgR_4 h83 h93 h108 q1) (tgC_5 h128 h138 h153 q3)
          · refine ok_iload 72 rfl rfl rfl (ok_goto 73 169 rfl rfl rfl (ok_ist9 92 rfl rfl rfl ?_))
            first | exact inner (by omega) _ _ (tgR_0 h83 h93 h108) (tgC_0 h128 h138 h153) | exact inner (by omega) _ _ (tgR_0 h83 h93 h108) (tgC_1 h128) | exact inner (by omega) _ _ (tgR_0 h83 h93 h108) (tgC_3 h128 h138) | exact inner (by omega) _ _ (tgR_0 h83 h93 h108) (tgC_5 h128 h138 h153 q3) | exact inner (by omega) _ _ (tgR_1 h83) (tgC_0 h128 h138 h153) | exact inner (by omega) _ _ (tgR_1 h83) (tgC_1 h128) | exact inner (by omega) _ _ (tgR_1 h83) (tgC_3 h128 h138) | exact inner (by omega) _ _ (tgR_1 h83) (tgC_5 h128 h138 h153 q3) | exact inner (by omega) _ _ (tgR_2 h83 h93) (tgC_0 h128 h138 h153) | exact inner (by omega) _ _ (tgR_2 h83 h93) (tgC_1 h128) | exact inner (by omega) _ _ (tgR_2 h83 h93) (tgC_3 h128 h138) | exact inner (by omega) _ _ (tgR_2 h83 h93) (tgC_5 h128 h138 h153 q3) | exact inner (by omega) _ _ (tgR_4 h83 h93 h108 q1) (tgC_0 h128 h138 h153) | exact inner (by omega) _ _ (tgR_4 h83 h93 h108 q1) (tgC_1 h128) | exact inner (by omega) _ _ (tgR_4 h83 h93 h108 q1) (tgC_3 h128 h138) | exact inner (by omega) _ _ (tgR_4 h83 h93 h108 q1) (tgC_5 h128 h138 h153 q3)
  have no : ¬ okU (σ 1 s) s w r t → ∃ z : Int, some (vi 0) = some (vi z) ∧ QM σ σ z ∧ XuB σ s w r t σ z := fun h2 => ⟨0, rfl, ⟨fr.rf, hB, Or.inl rfl⟩, Or.inl ⟨rfl, tbK_rf _, h2⟩⟩
  refine ok_aload_n 0 rfl rfl rfl (ok_iload_n 1 rfl rfl rfl (ok_callVI (M' := M_Mo_isTable) (as := [_]) 2 rfl rfl ml_X12_111 (s_Mo_isTable_r) rfl rfl (Nat.le_of_ble_eq_true rfl) ⟨Nat.le_of_ble_eq_true rfl, Nat.le_of_ble_eq_true rfl⟩ rfl (Nat.le_of_ble_eq_true rfl) (fun σ' z1 a1 => ?_)))
  obtain ⟨hs_, a1⟩ := a1
  rw [hs_]; clear hs_ σ'
  refine ok_if_eq 3 51 rfl rfl rfl (fun h5 => ?_) (fun h5 => ?_)
  · refine ok_iconst 28 rfl rfl (by decide) (ok_zret 29 rfl rfl rfl (by first | omega | (simp [up_if]; omega) | (simp [up_if] at *; omega)) ?_)
    exact no (fun q => no1 a1 h5 ⟨q.1.1, q.1.2.1, by have := (hB.1 s q.1.1 q.1.2.1).1; have := q.1.2.2; omega⟩)
  · have hs : tabB σ s := yes1 a1 h5
    obtain ⟨s1, s2, s3⟩ := id hs
    obtain ⟨g1, g2, g3⟩ := hB.1 s s1 s2
    refine ok_iload 4 rfl rfl rfl (ok_callSI (M' := M_Mo_isSlot) (as := [_]) 5 rfl rfl ml_X12_103 (s_Mo_isSlot_r) ⟨Nat.le_of_ble_eq_true rfl, Nat.le_of_ble_eq_true rfl⟩ rfl (Nat.le_of_ble_eq_true rfl) (fun σ' z2 a2 => ?_))
    obtain ⟨hs_, a2⟩ := a2
    rw [hs_]; clear hs_ σ'
    refine ok_if_eq 6 51 rfl rfl rfl (fun h13 => ?_) (fun h13 => ?_)
    · refine ok_iconst 28 rfl rfl (by decide) (ok_zret 29 rfl rfl rfl (by first | omega | (simp [up_if]; omega) | (simp [up_if] at *; omega)) ?_)
      exact no (fun q => no1 a2 h13 q.2.1)
    · refine ok_iload_n 7 rfl rfl rfl (ok_i2l 8 rfl rfl (ok_lconst (w := 0) 9 rfl rfl rfl (by decide) (ok_ldc2 10 (5) rfl rfl kc_X12_229 (by decide) (ok_callSI (M' := M_Mo_isIn) (as := [_, _, _]) 11 rfl rfl ml_X12_99 (s_Mo_isIn_r) ⟨Nat.le_of_ble_eq_true rfl, Nat.le_of_ble_eq_true rfl⟩ rfl (Nat.le_of_ble_eq_true rfl) (fun σ' z3 a3 => ?_)))))
      obtain ⟨hs_, a3⟩ := a3
      rw [hs_]; clear hs_ σ'
      refine ok_if_eq 12 51 rfl rfl rfl (fun h25 => ?_) (fun h25 => ?_)
      · refine ok_iconst 28 rfl rfl (by decide) (ok_zret 29 rfl rfl rfl (by first | omega | (simp [up_if]; omega) | (simp [up_if] at *; omega)) ?_)
        exact no (fun q => no1 a3 h25 q.2.2.1)
      · refine ok_iload_n 13 rfl rfl rfl (ok_iconst 14 rfl rfl (by decide) (ok_icmp_le 15 53 rfl rfl rfl (fun h30 => ?_) (fun h30 => ?_)))
        · have t2 := yes1 a2 h13
          have t3 := yes1 a3 h25
          first | exact main hs t2 t3 (fun q => by omega) | exact main hs t2 t3 (fun _ => by have := yes1 a4 h48; omega)
        · refine ok_iload_n 16 rfl rfl rfl (ok_i2l 17 rfl rfl (ok_lconst (w := 0) 18 rfl rfl rfl (by decide) (ok_aload_n 19 rfl rfl rfl (ok_getR 20 rfl rfl fl_X12_7 rfl rfl (ok_iload_n 21 rfl rfl rfl (ok_iald 22 rfl rfl rfl (by first | omega | (simp [up_if]; omega) | (simp [up_if] at *; omega)) (ok_iconst 23 rfl rfl (by decide) (ok_isub 24 rfl rfl (by first | omega | (simp [up_if]; omega) | (simp [up_if] at *; omega)) (ok_i2l 25 rfl rfl (ok_callSI (M' := M_Mo_isIn) (as := [_, _, _]) 26 rfl rfl ml_X12_99 (s_Mo_isIn_r) ⟨Nat.le_of_ble_eq_true rfl, Nat.le_of_ble_eq_true rfl⟩ rfl (Nat.le_of_ble_eq_true rfl) (fun σ' z4 a4 => ?_)))))))))))
          obtain ⟨hs_, a4⟩ := a4
          rw [hs_]; clear hs_ σ'
          refine ok_if_ne 27 53 rfl rfl rfl (fun h48 => ?_) (fun h48 => ?_)
          · have t2 := yes1 a2 h13
            have t3 := yes1 a3 h25
            first | exact main hs t2 t3 (fun q => by omega) | exact main hs t2 t3 (fun _ => by have := yes1 a4 h48; omega)
          · refine ok_iconst 28 rfl rfl (by decide) (ok_zret 29 rfl rfl rfl (by first | omega | (simp [up_if]; omega) | (simp [up_if] at *; omega)) ?_)
            exact no (fun q => no1 a4 h48 (by have := q.2.2.2 (by omega); omega))
end
section
/-! JOINS: bits of one long; sets of columns and rows as numbers below 256 -/
def jb (J r q : Int) : Bool := lb J (r * 8 + q).toNat
theorem lb_bit {p : Int} (hp : 0 ≤ p ∧ p < 64) {k : Nat} (hk : k < 64) : lb (lshl 1 p) k = decide ((k : Int) = p) := by
  obtain ⟨m, hm⟩ : ∃ m : Nat, p = (m : Int) := ⟨p.toNat, by omega⟩
  rw [hm, lb_shl 1 (by omega) hk, lb_1 ⟨k - m, by omega⟩]
  by_cases q : k = m
  · subst q; simp
  · by_cases w : m ≤ k
    · rw [decide_eq_true w, decide_eq_false (by dsimp only; omega), decide_eq_false (by omega)]; rfl
    · rw [decide_eq_false w, Bool.false_and, decide_eq_false (by omega)]
theorem jb_set {v i j x y : Int} (hi : 0 ≤ i ∧ i < 8) (hj : 0 ≤ j ∧ j < 8) (hx : 0 ≤ x ∧ x < 8) (hy : 0 ≤ y ∧ y < 8) : jb (lor v (lshl 1 (i * 8 + j))) x y = (jb v x y || decide (x = i ∧ y = j)) := by
  unfold jb
  rw [lb_or, lb_bit ⟨by omega, by omega⟩ (by omega)]
  congr 1
  by_cases q : x = i ∧ y = j
  · rw [decide_eq_true q, decide_eq_true (by omega)]
  · rw [decide_eq_false q, decide_eq_false (by omega)]
theorem jb_0 (x y : Int) : jb 0 x y = false := lb_0 _
theorem jb_ext {a b : Int} (ha : rl a) (hb : rl b) (h : ∀ x y : Int, 0 ≤ x → x < 8 → 0 ≤ y → y < 8 → jb a x y = jb b x y) : a = b := by
  refine lb_ext ha hb (fun i hi => ?_)
  have := h ((i / 8 : Nat) : Int) ((i % 8 : Nat) : Int) (by omega) (by omega) (by omega) (by omega)
  unfold jb at this
  rw [show (((i / 8 : Nat) : Int) * 8 + ((i % 8 : Nat) : Int)).toNat = i by omega] at this
  exact this
/-- small numbers by their bits -/
theorem ib_bt {z : Int} (h : 0 ≤ z ∧ z < 256) {i : Nat} (hi : i < 32) : ib z i = z.toNat.testBit i := by
  show (BitVec.ofInt 32 z).getLsbD i = _
  rw [← BitVec.testBit_toNat, BitVec.toNat_ofInt]
  have : (z % ((2 ^ 32 : Nat) : Int)).toNat = z.toNat := by omega
  rw [this]
theorem sm_bits {z : Int} (hz : rg z) (h : ∀ i, 8 ≤ i → i < 32 → ib z i = false) : 0 ≤ z ∧ z < 256 := by
  have h0 := nn_of_31 hz (h 31 (by decide) (by decide))
  refine ⟨h0, ?_⟩
  have e : (BitVec.ofInt 32 z).toNat = z.toNat := by
    rw [BitVec.toNat_ofInt]
    omega
  have l : (BitVec.ofInt 32 z).toNat < 2 ^ 8 := by
    refine Nat.lt_pow_two_of_testBit _ (fun i hi => ?_)
    by_cases q : i < 32
    · have := h i hi q
      unfold ib at this
      rw [← BitVec.testBit_toNat] at this
      exact this
    · rw [BitVec.testBit_toNat]
      exact BitVec.getLsbD_of_ge _ _ (by omega)
  rw [e] at l
  omega
theorem bt_ib {z : Int} (h : 0 ≤ z ∧ z < 256) {c : Int} (hc : 0 ≤ c ∧ c < 8) : bt z c = ib z c.toNat := by
  rw [ib_bt h (by omega)]; rfl
theorem bt_ext {a b : Int} (ha : 0 ≤ a ∧ a < 256) (hb : 0 ≤ b ∧ b < 256) (h : ∀ c : Int, 0 ≤ c → c < 8 → bt a c = bt b c) : a = b := by
  have : a.toNat = b.toNat := by
    refine Nat.eq_of_testBit_eq (fun i => ?_)
    by_cases q : i < 8
    · exact h i (by omega) (by omega)
    · rw [Nat.testBit_lt_two_pow (Nat.lt_of_lt_of_le (by omega : a.toNat < 2 ^ 8) (Nat.pow_le_pow_right (by decide) (by omega))), Nat.testBit_lt_two_pow (Nat.lt_of_lt_of_le (by omega : b.toNat < 2 ^ 8) (Nat.pow_le_pow_right (by decide) (by omega)))]
  omega
theorem rowJ_sp {J r : Int} (hr : 0 ≤ r ∧ r < 8) : (0 ≤ rowJ J r ∧ rowJ J r < 256) ∧ ∀ c : Int, 0 ≤ c → c < 8 → bt (rowJ J r) c = jb J r c := by
  have e : wr (r * 8) = (((r * 8).toNat : Nat) : Int) := by rw [wr_id ⟨by omega, by omega⟩]; omega
  have bits : ∀ i, i < 32 → ib (rowJ J r) i = (lb J ((r * 8).toNat + i) && decide (i < 8)) := fun i hi => by
    unfold rowJ
    rw [ib_wr _ hi, lb_and, e, lb_ushr _ (by omega), lb_255 ⟨i, by omega⟩]
  have hb : 0 ≤ rowJ J r ∧ rowJ J r < 256 := sm_bits (rg_wr _) (fun i a b => by rw [bits i b, decide_eq_false (by omega), Bool.and_false])
  refine ⟨hb, fun c c0 c1 => ?_⟩
  rw [bt_ib hb ⟨c0, c1⟩, bits _ (by omega), decide_eq_true (by omega), Bool.and_true]
  unfold jb
  congr 1
  omega
theorem ior_sp {a b : Int} (ha : 0 ≤ a ∧ a < 256) (hb : 0 ≤ b ∧ b < 256) : (0 ≤ ior a b ∧ ior a b < 256) ∧ ∀ c : Int, 0 ≤ c → c < 8 → bt (ior a b) c = (bt a c || bt b c) := by
  have bits : ∀ i, i < 32 → ib (ior a b) i = (a.toNat.testBit i || b.toNat.testBit i) := fun i hi => by rw [ib_or, ib_bt ha hi, ib_bt hb hi]
  have hz : 0 ≤ ior a b ∧ ior a b < 256 := sm_bits (rg_ior _ _) (fun i p q => by
    rw [bits i q, Nat.testBit_lt_two_pow (Nat.lt_of_lt_of_le (by omega : a.toNat < 2 ^ 8) (Nat.pow_le_pow_right (by decide) p)), Nat.testBit_lt_two_pow (Nat.lt_of_lt_of_le (by omega : b.toNat < 2 ^ 8) (Nat.pow_le_pow_right (by decide) p))]
    rfl)
  exact ⟨hz, fun c c0 c1 => by rw [bt_ib hz ⟨c0, c1⟩, bits _ (by omega)]; rfl⟩
theorem ib_m1 : ∀ i : Fin 32, ib (-1) i.val = true := by decide +kernel
/-- what is open, without what is used -/
theorem opn_sp {a b : Int} (ha : 0 ≤ a ∧ a < 256) (hb : 0 ≤ b ∧ b < 256) : (0 ≤ iand a (ixor b (-1)) ∧ iand a (ixor b (-1)) < 256) ∧ ∀ c : Int, 0 ≤ c → c < 8 → bt (iand a (ixor b (-1))) c = (bt a c && !(bt b c)) := by
  have bits : ∀ i, i < 32 → ib (iand a (ixor b (-1))) i = (a.toNat.testBit i && !(b.toNat.testBit i)) := fun i hi => by
    rw [ib_and, ib_xor, ib_bt ha hi, ib_bt hb hi, ib_m1 ⟨i, hi⟩, Bool.xor_true]
  have hz : 0 ≤ iand a (ixor b (-1)) ∧ iand a (ixor b (-1)) < 256 := sm_bits (rg_iand _ _) (fun i p q => by
    rw [bits i q, Nat.testBit_lt_two_pow (Nat.lt_of_lt_of_le (by omega : a.toNat < 2 ^ 8) (Nat.pow_le_pow_right (by decide) p))]
    rfl)
  exact ⟨hz, fun c c0 c1 => by rw [bt_ib hz ⟨c0, c1⟩, bits _ (by omega)]; rfl⟩
theorem b_nz {s j : Int} (h1 : 0 ≤ s ∧ s < 256) (h2 : 0 ≤ j ∧ j < 8) : (iand (ishr s j) 1 ≠ 0 ↔ bt s j = true) ∧ (iand (ishr s j) 1 = 0 ↔ bt s j = false) := by
  rw [bitG h1 h2]
  cases bt s j <;> simp
/-- a table's joins, exactly -/
def jOf (J n : Int) (op : Int → Int → Prop) : Prop := rl J ∧ ∀ x y : Int, 0 ≤ x → x < 8 → 0 ≤ y → y < 8 → (jb J x y = true ↔ (x < n ∧ y < n ∧ op x y))
theorem t_Jo_of {σ : eS} {c : Nat} {n m : Int} (hs : nth shA c = some (1, 64, [])) (hn : 0 ≤ n ∧ n ≤ 8) : MtL shA M_Jo_of [vr c, vi n, vi m] σ (fun σ' z => σ' = σ ∧ jOf z n (fun i j => m ≤ σ c (i * 8 + j))) := by
  refine Mt.of okM_Jo_of (Nat.le_of_ble_eq_true rfl) (fun hk hg => ?_)
  refine ok_lconst (w := 0) 0 rfl rfl rfl (by decide) (ok_lst3 1 rfl rfl rfl (ok_iconst 2 rfl rfl (by decide) (ok_ist5 3 rfl rfl rfl ?_)))
  refine lpO2 (fun v i : Int => [some (vr c), some (vi n), some (vi m), some (vl v), none, some (vi i), none, none]) (fun _ _ => σ) (fun v i => 0 ≤ i ∧ i ≤ n ∧ rl v ∧ ∀ x y : Int, 0 ≤ x → x < 8 → 0 ≤ y → y < 8 → (jb v x y = true ↔ (x < i ∧ y < n ∧ m ≤ σ c (x * 8 + y)))) (fun _ i => (8 - i).toNat) ?_ 0 0 ⟨by omega, by omega, ⟨by omega, by omega⟩, fun x y a b d e => by rw [jb_0]; constructor; intro q; cases q; intro q; omega⟩
  rintro v i ⟨i1, i2, v1, v2⟩ ih
  refine ok_iload 4 rfl rfl rfl (ok_iload_n 5 rfl rfl rfl (ok_icmp_ge 6 57 rfl rfl rfl (fun h8 => ?_) (fun h8 => ?_)))
  · refine ok_lload_n 33 rfl rfl rfl (ok_lret 34 rfl rfl rfl ?_)
    exact ⟨_, rfl, rfl, v1, fun x y a b d e => by rw [v2 x y a b d e, show i = n by omega]⟩
  · refine ok_iconst 7 rfl rfl (by decide) (ok_ist6 8 rfl rfl rfl ?_)
    refine lpO2 (fun v j : Int => [some (vr c), some (vi n), some (vi m), some (vl v), none, some (vi i), some (vi j), none]) (fun _ _ => σ) (fun v j => 0 ≤ j ∧ j ≤ n ∧ rl v ∧ ∀ x y : Int, 0 ≤ x → x < 8 → 0 ≤ y → y < 8 → (jb v x y = true ↔ ((x < i ∨ (x = i ∧ y < j)) ∧ y < n ∧ m ≤ σ c (x * 8 + y)))) (fun _ j => (8 - j).toNat) ?_ v 0 ⟨by omega, by omega, v1, fun x y a b d e => by rw [v2 x y a b d e]; exact ⟨fun q => ⟨Or.inl q.1, q.2⟩, fun q => ⟨by omega, q.2⟩⟩⟩
    have il : i < n := by omega
    clear v1 v2 v
    rintro v j ⟨j1, j2, v1, v2⟩ ih2
    refine ok_iload 9 rfl rfl rfl (ok_iload_n 10 rfl rfl rfl (ok_icmp_ge 11 51 rfl rfl rfl (fun h17 => ?_) (fun h17 => ?_)))
    · refine ok_inc5 31 rfl rfl rfl (by first | omega | (simp [up_if]; omega) | (simp [up_if] at *; omega)) (ok_goto 32 5 rfl rfl rfl ?_)
      exact ok_fg [some (vr c), some (vi n), some (vi m), some (vl _), none, some (vi (i + 1)), none, none] ⟨rfl, rfl, rfl, rfl, rfl, trivial⟩ (ih _ (i + 1) ⟨by omega, by omega, v1, fun x y a b d e => by rw [v2 x y a b d e]; exact ⟨fun q => ⟨by omega, q.2⟩, fun q => ⟨by omega, q.2⟩⟩⟩ (by omega))
    · refine ok_iload 12 rfl rfl rfl (ok_bipush 13 rfl rfl (by decide) (by decide) (ok_imul 14 rfl rfl (by first | omega | (simp [up_if]; omega) | (simp [up_if] at *; omega)) (ok_iload 15 rfl rfl rfl (ok_iadd 16 rfl rfl (by first | omega | (simp [up_if]; omega) | (simp [up_if] at *; omega)) (ok_ist7 17 rfl rfl rfl (ok_aload_n 18 rfl rfl rfl (ok_iload 19 rfl rfl rfl (ok_iald 20 rfl rfl hs (by first | omega | (simp [up_if]; omega) | (simp [up_if] at *; omega)) (ok_iload_n 21 rfl rfl rfl (ok_icmp_lt 22 45 rfl rfl rfl (fun h35 => ?_) (fun h35 => ?_)))))))))))
      · refine ok_inc6 29 rfl rfl rfl (by first | omega | (simp [up_if]; omega) | (simp [up_if] at *; omega)) (ok_goto 30 14 rfl rfl rfl ?_)
        refine ok_fg [some (vr c), some (vi n), some (vi m), some (vl _), none, some (vi i), some (vi (j + 1)), none] ⟨rfl, rfl, rfl, rfl, rfl, rfl, trivial⟩ (ih2 _ (j + 1) ⟨by omega, by omega, by first | exact rl_lor _ _ | exact v1, fun x y a b d e => ?_⟩ (by omega))
        first
          | (rw [jb_set ⟨i1, by omega⟩ ⟨j1, by omega⟩ ⟨a, b⟩ ⟨d, e⟩, Bool.or_eq_true, v2 x y a b d e, decide_eq_true_eq]
             constructor
             · rintro (q | q)
               · exact ⟨by omega, q.2⟩
               · rw [q.1, q.2]; exact ⟨by omega, by omega, by omega⟩
             · rintro ⟨q1, q2⟩
               by_cases w : x = i ∧ y = j
               · exact Or.inr w
               · exact Or.inl ⟨by omega, q2⟩)
          | (rw [v2 x y a b d e]
             constructor
             · rintro ⟨q1, q2⟩
               exact ⟨by omega, q2⟩
             · rintro ⟨q1, q2, q3⟩
               by_cases w : x = i ∧ y = j
               · rw [w.1, w.2] at q3; omega
               · exact ⟨by omega, q2, q3⟩)
      · refine ok_lload_n 23 rfl rfl rfl (ok_lconst (w := 1) 24 rfl rfl rfl (by decide) (ok_iload 25 rfl rfl rfl (ok_lshl 26 rfl rfl (ok_lor 27 rfl rfl (ok_lst3 28 rfl rfl rfl (ok_inc6 29 rfl rfl rfl (by first | omega | (simp [up_if]; omega) | (simp [up_if] at *; omega)) (ok_goto 30 14 rfl rfl rfl ?_)))))))
        refine ok_fg [some (vr c), some (vi n), some (vi m), some (vl _), none, some (vi i), some (vi (j + 1)), none] ⟨rfl, rfl, rfl, rfl, rfl, rfl, trivial⟩ (ih2 _ (j + 1) ⟨by omega, by omega, by first | exact rl_lor _ _ | exact v1, fun x y a b d e => ?_⟩ (by omega))
        first
          | (rw [jb_set ⟨i1, by omega⟩ ⟨j1, by omega⟩ ⟨a, b⟩ ⟨d, e⟩, Bool.or_eq_true, v2 x y a b d e, decide_eq_true_eq]
             constructor
             · rintro (q | q)
               · exact ⟨by omega, q.2⟩
               · rw [q.1, q.2]; exact ⟨by omega, by omega, by omega⟩
             · rintro ⟨q1, q2⟩
               by_cases w : x = i ∧ y = j
               · exact Or.inr w
               · exact Or.inl ⟨by omega, q2⟩)
          | (rw [v2 x y a b d e]
             constructor
             · rintro ⟨q1, q2⟩
               exact ⟨by omega, q2⟩
             · rintro ⟨q1, q2, q3⟩
               by_cases w : x = i ∧ y = j
               · rw [w.1, w.2] at q3; omega
               · exact ⟨by omega, q2, q3⟩)
theorem t_Ta_joinedBy {σ : eS} {t : Nat} {m : Int} (ht : tA t) (hT : iT σ t) : MtL shA M_Ta_joinedBy [vr t, vi m] σ (fun σ' z => σ' = σ ∧ jOf z (σ t 1) (fun i j => m ≤ cT σ t i j)) := by
  refine Mt.of okM_Ta_joinedBy (Nat.le_of_ble_eq_true rfl) (fun hk hg => ?_)
  refine ok_aload_n 0 rfl rfl rfl (ok_getR 1 rfl rfl fl_X9_9 (sT ht) rfl (ok_aload_n 2 rfl rfl rfl (ok_getI 3 rfl rfl fl_X9_15 (sT ht) rfl (Or.inl rfl) (ok_iload_n 4 rfl rfl rfl (ok_callSL (M' := M_Jo_of) (as := [_, _, _]) 5 rfl rfl ml_X9_56 (t_Jo_of (sC ht) ⟨hT.1, hT.2.1⟩) ⟨Nat.le_of_ble_eq_true rfl, Nat.le_of_ble_eq_true rfl⟩ rfl (Nat.le_of_ble_eq_true rfl) (fun σ' z hz => ?_))))))
  obtain ⟨hs_, hz⟩ := hz
  rw [hs_]; clear hs_ σ'
  refine ok_lret 6 rfl rfl rfl ?_
  exact ⟨_, rfl, rfl, hz⟩
/-- the columns that some rows are joined with -/
def cOf (J n s z : Int) : Prop := (0 ≤ z ∧ z < 256) ∧ ∀ c : Int, 0 ≤ c → c < 8 → (bt z c = true ↔ ∃ r, 0 ≤ r ∧ r < n ∧ bt s r = true ∧ jb J r c = true)
theorem t_Jo_columnsOf {σ : eS} {J s n : Int} (hn : 0 ≤ n ∧ n ≤ 8) (hs : 0 ≤ s ∧ s < 256) : MtI shA M_Jo_columnsOf [vl J, vi s, vi n] σ (fun σ' z => σ' = σ ∧ cOf J n s z) := by
  refine Mt.of okM_Jo_columnsOf (Nat.le_of_ble_eq_true rfl) (fun hk hg => ?_)
  refine ok_iconst 0 rfl rfl (by decide) (ok_ist4 1 rfl rfl rfl (ok_iconst 2 rfl rfl (by decide) (ok_ist5 3 rfl rfl rfl ?_)))
  refine lpO2 (fun v j : Int => [some (vl J), none, some (vi s), some (vi n), some (vi v), some (vi j)]) (fun _ _ => σ) (fun v j => 0 ≤ j ∧ j ≤ n ∧ cOf J j s v) (fun _ j => (8 - j).toNat) ?_ 0 0 ⟨by omega, by omega, ⟨by omega, by omega⟩, fun c a b => by rw [bt_0]; constructor; intro q; cases q; rintro ⟨r, q1, q2, -⟩; omega⟩
  rintro v j ⟨j1, j2, v1, v2⟩ ih
  refine ok_iload 4 rfl rfl rfl (ok_iload_n 5 rfl rfl rfl (ok_icmp_ge 6 38 rfl rfl rfl (fun h9 => ?_) (fun h9 => ?_)))
  · refine ok_iload 21 rfl rfl rfl (ok_iret 22 rfl rfl rfl ?_)
    exact ⟨_, rfl, rfl, by rw [show n = j by omega]; exact ⟨v1, v2⟩⟩
  · have bz := b_nz (s := s) (j := j) hs ⟨by omega, by omega⟩
    have rj := rowJ_sp (J := J) (r := j) ⟨by omega, by omega⟩
    have os := ior_sp (b := rowJ J j) v1 rj.1
    refine ok_iload_n 7 rfl rfl rfl (ok_iload 8 rfl rfl rfl (ok_ishr 9 rfl rfl (ok_iconst 10 rfl rfl (by decide) (ok_iand 11 rfl rfl (ok_if_eq 12 32 rfl rfl rfl (fun h18 => ?_) (fun h18 => ?_))))))
    · refine ok_inc5 19 rfl rfl rfl (by first | omega | (simp [up_if]; omega) | (simp [up_if] at *; omega)) (ok_goto 20 6 rfl rfl rfl ?_)
      refine ih _ (j + 1) ⟨by omega, by omega, ?_⟩ (by omega)
      first
        | (refine ⟨os.1, fun c a b => ?_⟩
           rw [os.2 c a b, Bool.or_eq_true, v2 c a b, rj.2 c a b]
           constructor
           · rintro (⟨r, q1, q2, q3⟩ | q)
             · exact ⟨r, q1, by omega, q3⟩
             · exact ⟨j, j1, by omega, bz.1.mp (by omega), q⟩
           · rintro ⟨r, q1, q2, q3, q4⟩
             rcases (by omega : r < j ∨ r = j) with w | w
             · exact Or.inl ⟨r, q1, w, q3, q4⟩
             · rw [w] at q4; exact Or.inr q4)
        | (have hb : bt s j = false := bz.2.mp (by omega)
           refine ⟨v1, fun c a b => ?_⟩
           rw [v2 c a b]
           constructor
           · rintro ⟨r, q1, q2, q3⟩
             exact ⟨r, q1, by omega, q3⟩
           · rintro ⟨r, q1, q2, q3, q4⟩
             rcases (by omega : r < j ∨ r = j) with w | w
             · exact ⟨r, q1, w, q3, q4⟩
             · rw [w, hb] at q3; cases q3)
    · refine ok_iload 13 rfl rfl rfl (ok_lload_n 14 rfl rfl rfl (ok_iload 15 rfl rfl rfl (ok_callSI (M' := M_Jo_rowOf) (as := [_, _]) 16 rfl rfl ml_X1_17 (s_Jo_rowOf) ⟨Nat.le_of_ble_eq_true rfl, Nat.le_of_ble_eq_true rfl⟩ rfl (Nat.le_of_ble_eq_true rfl) (fun σ' z hz => ?_))))
      rw [hz.1, hz.2]
      clear hz z σ'
      refine ok_ior 17 rfl rfl (ok_ist4 18 rfl rfl rfl (ok_inc5 19 rfl rfl rfl (by first | omega | (simp [up_if]; omega) | (simp [up_if] at *; omega)) (ok_goto 20 6 rfl rfl rfl ?_)))
      refine ih _ (j + 1) ⟨by omega, by omega, ?_⟩ (by omega)
      first
        | (refine ⟨os.1, fun c a b => ?_⟩
           rw [os.2 c a b, Bool.or_eq_true, v2 c a b, rj.2 c a b]
           constructor
           · rintro (⟨r, q1, q2, q3⟩ | q)
             · exact ⟨r, q1, by omega, q3⟩
             · exact ⟨j, j1, by omega, bz.1.mp (by omega), q⟩
           · rintro ⟨r, q1, q2, q3, q4⟩
             rcases (by omega : r < j ∨ r = j) with w | w
             · exact Or.inl ⟨r, q1, w, q3, q4⟩
             · rw [w] at q4; exact Or.inr q4)
        | (have hb : bt s j = false := bz.2.mp (by omega)
           refine ⟨v1, fun c a b => ?_⟩
           rw [v2 c a b]
           constructor
           · rintro ⟨r, q1, q2, q3⟩
             exact ⟨r, q1, by omega, q3⟩
           · rintro ⟨r, q1, q2, q3, q4⟩
             rcases (by omega : r < j ∨ r = j) with w | w
             · exact ⟨r, q1, w, q3, q4⟩
             · rw [w, hb] at q3; cases q3)
end
section
/-! LACK: the same walk over all sets of rows, on both sides -/
def cOp (n : Int) (op : Int → Int → Prop) (s z : Int) : Prop := (0 ≤ z ∧ z < 256) ∧ ∀ c : Int, 0 ≤ c → c < 8 → (bt z c = true ↔ (c < n ∧ ∃ r, 0 ≤ r ∧ r < n ∧ bt s r = true ∧ op r c))
theorem cOp_un {n s z z' : Int} {op : Int → Int → Prop} (h : cOp n op s z) (h' : cOp n op s z') : z = z' := bt_ext h.1 h'.1 (fun c a b => by
  have e := (h.2 c a b).trans (h'.2 c a b).symm
  cases q : bt z c <;> cases q' : bt z' c <;> simp_all)
theorem cOp_cg {n s z : Int} {op op' : Int → Int → Prop} (h : cOp n op s z) (e : ∀ i j, 0 ≤ i → i < n → 0 ≤ j → j < n → (op i j ↔ op' i j)) : cOp n op' s z := ⟨h.1, fun c a b => by
  rw [h.2 c a b]
  constructor
  · rintro ⟨q, r, r1, r2, r3, r4⟩; exact ⟨q, r, r1, r2, r3, (e r c r1 r2 a q).mp r4⟩
  · rintro ⟨q, r, r1, r2, r3, r4⟩; exact ⟨q, r, r1, r2, r3, (e r c r1 r2 a q).mpr r4⟩⟩
theorem cOf_op {J n s z : Int} {op : Int → Int → Prop} (hn : n ≤ 8) (hJ : jOf J n op) (h : cOf J n s z) : cOp n op s z := ⟨h.1, fun c a b => by
  rw [h.2 c a b]
  constructor
  · rintro ⟨r, r1, r2, r3, r4⟩
    obtain ⟨q1, q2, q3⟩ := (hJ.2 r c r1 (by omega) a b).mp r4
    exact ⟨q2, r, r1, r2, r3, q3⟩
  · rintro ⟨q, r, r1, r2, r3, r4⟩
    exact ⟨r, r1, r2, r3, (hJ.2 r c r1 (by omega) a b).mpr ⟨r2, q, r4⟩⟩⟩
noncomputable def cP (n : Int) (op : Int → Int → Prop) (s : Int) : Int := Classical.epsilon (fun z => cOp n op s z)
theorem cP_eq {n s z : Int} {op : Int → Int → Prop} (h : cOp n op s z) : cP n op s = z := cOp_un (Classical.epsilon_spec (p := fun z => cOp n op s z) ⟨z, h⟩) h
noncomputable def lkF (n : Int) (op : Int → Int → Prop) (s : Int) : Int := pc s - pc (cP n op s)
def lkB (f : Int → Int) : Nat → Int × Int
  | 0 => (0, 0)
  | k + 1 => if (lkB f k).2 < f ((k + 1 : Nat) : Int) then (((k + 1 : Nat) : Int), f ((k + 1 : Nat) : Int)) else lkB f k
theorem lkB_s {f : Int → Int} {k : Int} (h : 1 ≤ k) : lkB f k.toNat = if (lkB f (k - 1).toNat).2 < f k then (k, f k) else lkB f (k - 1).toNat := by
  obtain ⟨m, hm⟩ : ∃ m : Nat, k = ((m + 1 : Nat) : Int) := ⟨(k - 1).toNat, by omega⟩
  subst hm
  rw [show (((m + 1 : Nat) : Int)).toNat = m + 1 by omega, show (((m + 1 : Nat) : Int) - 1).toNat = m by omega]
  rfl
theorem lkB_bd {f : Int → Int} : ∀ k : Nat, 0 ≤ (lkB f k).1 ∧ (lkB f k).1 ≤ (k : Int)
  | 0 => ⟨Int.le_refl _, Int.le_refl _⟩
  | k + 1 => by
    have := lkB_bd (f := f) k
    rw [lkB]
    split
    · dsimp only; omega
    · omega
theorem lkB_f {f : Int → Int} (h0 : f 0 = 0) : ∀ k : Nat, (lkB f k).2 = f (lkB f k).1
  | 0 => h0.symm
  | k + 1 => by
    have := lkB_f h0 k
    rw [lkB]
    split
    · rfl
    · exact this
theorem pc_0 : pc 0 = 0 := by decide
theorem cOp_0 (n : Int) (op : Int → Int → Prop) : cOp n op 0 0 := ⟨⟨by omega, by omega⟩, fun c a b => by
  rw [bt_0]
  constructor
  · intro q; cases q
  · rintro ⟨q, r, r1, r2, r3, r4⟩; rw [bt_0] at r3; cases r3⟩
theorem lkF_0 (n : Int) (op : Int → Int → Prop) : lkF n op 0 = 0 := by unfold lkF; rw [cP_eq (cOp_0 n op), pc_0]; rfl
theorem t_Jo_rowsMostLacking {σ : eS} {J n : Int} {op : Int → Int → Prop} (hn : 0 ≤ n ∧ n ≤ 8) (hJ : jOf J n op) : MtI shA M_Jo_rowsMostLacking [vl J, vi n] σ (fun σ' z => σ' = σ ∧ z = (lkB (lkF n op) (p2 n - 1).toNat).1) := by
  refine Mt.of okM_Jo_rowsMostLacking (Nat.le_of_ble_eq_true rfl) (fun hk hg => ?_)
  have b2 := bit2 hn
  refine ok_iconst 0 rfl rfl (by decide) (ok_ist3 1 rfl rfl rfl (ok_iconst 2 rfl rfl (by decide) (ok_ist4 3 rfl rfl rfl (ok_iconst 4 rfl rfl (by decide) (ok_ist5 5 rfl rfl rfl ?_)))))
  refine lpO3 (fun g v j : Int => [some (vl J), none, some (vi n), some (vi g), some (vi v), some (vi j), none]) (fun _ _ _ => σ) (fun g v j => 1 ≤ j ∧ j ≤ p2 n ∧ (g, v) = lkB (lkF n op) (j - 1).toNat) (fun _ _ j => (256 - j).toNat) ?_ 0 0 1 ⟨by omega, by omega, rfl⟩
  rintro g v j ⟨j1, j2, e⟩ ih
  refine ok_iload 6 rfl rfl rfl (ok_iconst 7 rfl rfl (by decide) (ok_iload_n 8 rfl rfl rfl (ok_ishl 9 rfl rfl ?_)))
  rw [b2.1]
  refine ok_icmp_ge 10 54 rfl rfl rfl (fun h13 => ?_) (fun h13 => ?_)
  · refine ok_iload_n 29 rfl rfl rfl (ok_iret 30 rfl rfl rfl ?_)
    exact ⟨_, rfl, rfl, by rw [show p2 n - 1 = j - 1 by omega, ← e]⟩
  · have pj := (bitL (s := j) (n := 8) (by omega) (by omega)).2.2
    refine ok_iload 11 rfl rfl rfl (ok_callSI (M' := M_Ji_bitCount) (as := [_]) 12 rfl rfl ml_X1_28 (s_Ji_bitCount) ⟨Nat.le_of_ble_eq_true rfl, Nat.le_of_ble_eq_true rfl⟩ rfl (Nat.le_of_ble_eq_true rfl) (fun σ' z hz => ?_))
    rw [hz.1, hz.2]
    clear hz z σ'
    refine ok_lload_n 13 rfl rfl rfl (ok_iload 14 rfl rfl rfl (ok_iload_n 15 rfl rfl rfl (ok_callSI (M' := M_Jo_columnsOf) (as := [_, _, _]) 16 rfl rfl ml_X1_25 (t_Jo_columnsOf hn ⟨by omega, by omega⟩) ⟨Nat.le_of_ble_eq_true rfl, Nat.le_of_ble_eq_true rfl⟩ rfl (Nat.le_of_ble_eq_true rfl) (fun σ' z2 x2 => ?_))))
    obtain ⟨hs_, x2⟩ := x2
    rw [hs_]; clear hs_ σ'
    have cz := cP_eq (cOf_op hn.2 hJ x2)
    have pz := (bitL (s := z2) (n := 8) x2.1 (by omega)).2.2
    rw [bcP (s := j) ⟨by omega, by omega⟩]
    refine ok_callSI (M' := M_Ji_bitCount) (as := [_]) 17 rfl rfl ml_X1_28 (s_Ji_bitCount) ⟨Nat.le_of_ble_eq_true rfl, Nat.le_of_ble_eq_true rfl⟩ rfl (Nat.le_of_ble_eq_true rfl) (fun σ' z hz => ?_)
    rw [hz.1, hz.2]
    clear hz z σ'
    rw [bcP (s := z2) x2.1]
    refine ok_isub 18 rfl rfl (by first | omega | (simp [up_if]; omega) | (simp [up_if] at *; omega)) (ok_ist6 19 rfl rfl rfl (ok_iload 20 rfl rfl rfl (ok_iload 21 rfl rfl rfl (ok_icmp_le 22 48 rfl rfl rfl (fun h38 => ?_) (fun h38 => ?_)))))
    · refine ok_inc5 27 rfl rfl rfl (by first | omega | (simp [up_if]; omega) | (simp [up_if] at *; omega)) (ok_goto 28 8 rfl rfl rfl ?_)
      have es := lkB_s (f := lkF n op) (k := j) (by omega)
      rw [← e] at es
      have fj : lkF n op j = pc j - pc z2 := by unfold lkF; rw [cz]
      rw [fj] at es
      dsimp only at es
      refine ok_fg [some (vl J), none, some (vi n), some (vi _), some (vi _), some (vi (j + 1)), none] ⟨rfl, rfl, rfl, rfl, rfl, trivial⟩ (ih _ _ (j + 1) ⟨by omega, by omega, ?_⟩ (by omega))
      rw [show j + 1 - 1 = j by omega, es]
      first | rw [if_pos (by omega)] | rw [if_neg (by omega)]
    · refine ok_iload 23 rfl rfl rfl (ok_ist4 24 rfl rfl rfl (ok_iload 25 rfl rfl rfl (ok_ist3 26 rfl rfl rfl (ok_inc5 27 rfl rfl rfl (by first | omega | (simp [up_if]; omega) | (simp [up_if] at *; omega)) (ok_goto 28 8 rfl rfl rfl ?_)))))
      have es := lkB_s (f := lkF n op) (k := j) (by omega)
      rw [← e] at es
      have fj : lkF n op j = pc j - pc z2 := by unfold lkF; rw [cz]
      rw [fj] at es
      dsimp only at es
      refine ok_fg [some (vl J), none, some (vi n), some (vi _), some (vi _), some (vi (j + 1)), none] ⟨rfl, rfl, rfl, rfl, rfl, trivial⟩ (ih _ _ (j + 1) ⟨by omega, by omega, ?_⟩ (by omega))
      rw [show j + 1 - 1 = j by omega, es]
      first | rw [if_pos (by omega)] | rw [if_neg (by omega)]
def isL (l : Int) : Prop := 0 ≤ l ∧ l ≤ 99999999
noncomputable def lackV (n : Int) (op : Int → Int → Prop) (w : Int) : Int := if w = 0 then (lkB (lkF n op) (p2 n - 1).toNat).2 else if w = 1 then (lkB (lkF n op) (p2 n - 1).toNat).1 else cP n op (lkB (lkF n op) (p2 n - 1).toNat).1
def okL (T : Prop) (l w : Int) : Prop := T ∧ isL l ∧ 0 ≤ w ∧ w ≤ 2
theorem t_Ev_lack {σ : eS} {s m w : Int} (h : IA σ) : MtI shA M_Ev_lack [vr 0, vi s, vi m, vi w] σ (fun σ' z => σ' = σ ∧ ((¬ okL (tabA σ s) m w ∧ z = -1) ∨ (okL (tabA σ s) m w ∧ z = lackV (σ (s.toNat + 2) 1) (fun i j => m ≤ cT σ (s.toNat + 2) i j) w))) := by
  refine Mt.of okM_Ev_lack (Nat.le_of_ble_eq_true rfl) (fun hk hg => ?_)
  refine ok_aload_n 0 rfl rfl rfl (ok_iload_n 1 rfl rfl rfl (ok_callVR (M' := M_Ev_filledSlot) (as := [_]) 2 rfl rfl ml_X11_137 (s_Ev_filledSlot) rfl rfl (Nat.le_of_ble_eq_true rfl) ⟨Nat.le_of_ble_eq_true rfl, Nat.le_of_ble_eq_true rfl⟩ rfl (Nat.le_of_ble_eq_true rfl) (fun σ' z hz => ?_)))
  obtain ⟨hs_, hz⟩ := hz
  rw [hs_]; clear hs_ σ'
  rcases hz with ⟨q, q0⟩ | ⟨q1, q2, q, q3⟩
  · subst q
    refine ok_ast4 3 rfl rfl rfl (ok_aload 4 rfl rfl rfl (ok_ifnullN 5 28 rfl rfl rfl (ok_iconst 14 rfl rfl (by decide) (ok_iret 15 rfl rfl rfl ?_))))
    exact ⟨_, rfl, rfl, Or.inl ⟨fun c => q0 c.1, rfl⟩⟩
  · subst q
    have ht := sl_tA ⟨q1, q2⟩
    have hT := (h.2.1 _ ht).1
    have hn : 0 ≤ σ (s.toNat + 2) 1 ∧ σ (s.toNat + 2) 1 ≤ 8 := ⟨hT.1, hT.2.1⟩
    obtain ⟨op, eop⟩ : ∃ op : Int → Int → Prop, op = fun i j => m ≤ cT σ (s.toNat + 2) i j := ⟨_, rfl⟩
    have b2 := bit2 hn
    have lb := lkB_bd (f := lkF (σ (s.toNat + 2) 1) op) (p2 (σ (s.toNat + 2) 1) - 1).toNat
    have lf := lkB_f (lkF_0 (σ (s.toNat + 2) 1) op) (p2 (σ (s.toNat + 2) 1) - 1).toNat
    refine ok_ast4 3 rfl rfl rfl (ok_aload 4 rfl rfl rfl (ok_ifnull 5 rfl rfl (ok_iload_n 6 rfl rfl rfl (ok_callSI (M' := M_Ev_isCell) (as := [_]) 7 rfl rfl ml_X11_208 (s_Ev_isCell) ⟨Nat.le_of_ble_eq_true rfl, Nat.le_of_ble_eq_true rfl⟩ rfl (Nat.le_of_ble_eq_true rfl) (fun σ' z0 x0 => ?_)))))
    obtain ⟨hs_, x0⟩ := x0
    rw [hs_]; clear hs_ σ'
    refine ok_if_eq 8 28 rfl rfl rfl (fun h16 => ?_) (fun h16 => ?_)
    · refine ok_iconst 14 rfl rfl (by decide) (ok_iret 15 rfl rfl rfl ?_)
      refine ⟨_, rfl, rfl, Or.inl ⟨fun c => ?_, rfl⟩⟩
      obtain ⟨c1, c2, c3, c4⟩ := c
      unfold isL at c2
      omega
    · refine ok_iload_n 9 rfl rfl rfl (ok_if_lt 10 28 rfl rfl rfl (fun h20 => ?_) (fun h20 => ?_))
      · refine ok_iconst 14 rfl rfl (by decide) (ok_iret 15 rfl rfl rfl ?_)
        refine ⟨_, rfl, rfl, Or.inl ⟨fun c => ?_, rfl⟩⟩
        obtain ⟨c1, c2, c3, c4⟩ := c
        unfold isL at c2
        omega
      · refine ok_iload_n 11 rfl rfl rfl (ok_iconst 12 rfl rfl (by decide) (ok_icmp_le 13 30 rfl rfl rfl (fun h25 => ?_) (fun h25 => ?_)))
        · refine ok_aload 16 rfl rfl rfl (ok_iload_n 17 rfl rfl rfl (ok_callVL (M' := M_Ta_joinedBy) (as := [_]) 18 rfl rfl ml_X11_119 (t_Ta_joinedBy ht hT) (sT ht) rfl (Nat.le_of_ble_eq_true rfl) ⟨Nat.le_of_ble_eq_true rfl, Nat.le_of_ble_eq_true rfl⟩ rfl (Nat.le_of_ble_eq_true rfl) (fun σ' z1 x1 => ?_)))
          obtain ⟨hs_, x1⟩ := x1
          rw [hs_]; clear hs_ σ'
          rw [← eop] at x1
          refine ok_lst5 19 rfl rfl rfl (ok_lload 20 rfl rfl rfl (ok_aload 21 rfl rfl rfl (ok_getI 22 rfl rfl fl_X11_103 (sT ht) rfl (Or.inl rfl) (ok_callSI (M' := M_Jo_rowsMostLacking) (as := [_, _]) 23 rfl rfl ml_X11_211 (t_Jo_rowsMostLacking hn x1) ⟨Nat.le_of_ble_eq_true rfl, Nat.le_of_ble_eq_true rfl⟩ rfl (Nat.le_of_ble_eq_true rfl) (fun σ' z2 x2 => ?_)))))
          obtain ⟨hs_, x2⟩ := x2
          rw [hs_]; clear hs_ σ'
          have z2b : 0 ≤ z2 ∧ z2 < 256 := by rw [x2]; omega
          have p2b := (bitL (s := z2) (n := 8) z2b (by omega)).2.2
          refine ok_ist7 24 rfl rfl rfl (ok_lload 25 rfl rfl rfl (ok_iload 26 rfl rfl rfl (ok_aload 27 rfl rfl rfl (ok_getI 28 rfl rfl fl_X11_103 (sT ht) rfl (Or.inl rfl) (ok_callSI (M' := M_Jo_columnsOf) (as := [_, _, _]) 29 rfl rfl ml_X11_214 (t_Jo_columnsOf hn z2b) ⟨Nat.le_of_ble_eq_true rfl, Nat.le_of_ble_eq_true rfl⟩ rfl (Nat.le_of_ble_eq_true rfl) (fun σ' z3 x3 => ?_))))))
          obtain ⟨hs_, x3⟩ := x3
          rw [hs_]; clear hs_ σ'
          have cz := cP_eq (cOf_op hn.2 x1 x3)
          have p3b := (bitL (s := z3) (n := 8) x3.1 (by omega)).2.2
          refine ok_ist8 30 rfl rfl rfl (ok_iload_n 31 rfl rfl rfl (ok_if_ne 32 80 rfl rfl rfl (fun h65 => ?_) (fun h65 => ?_)))
          · refine ok_iload_n 39 rfl rfl rfl (ok_iconst 40 rfl rfl (by decide) (ok_icmp_ne 41 90 rfl rfl rfl (fun h82 => ?_) (fun h82 => ?_)))
            · refine ok_iload 44 rfl rfl rfl (ok_iret 45 rfl rfl rfl ?_)
              refine ⟨_, rfl, rfl, Or.inr ⟨⟨⟨q1, q2, q3⟩, by unfold isL; omega, by omega, by omega⟩, ?_⟩⟩
              unfold lackV
              rw [if_neg (by omega)]
              first | (rw [if_pos (by omega), ← eop]; exact x2) | (rw [if_neg (by omega), ← eop, ← x2]; exact cz.symm)
            · refine ok_iload 42 rfl rfl rfl (ok_goto 43 92 rfl rfl rfl (ok_iret 45 rfl rfl rfl ?_))
              refine ⟨_, rfl, rfl, Or.inr ⟨⟨⟨q1, q2, q3⟩, by unfold isL; omega, by omega, by omega⟩, ?_⟩⟩
              unfold lackV
              rw [if_neg (by omega)]
              first | (rw [if_pos (by omega), ← eop]; exact x2) | (rw [if_neg (by omega), ← eop, ← x2]; exact cz.symm)
          · refine ok_iload 33 rfl rfl rfl (ok_callSI (M' := M_Ji_bitCount) (as := [_]) 34 rfl rfl ml_X11_218 (s_Ji_bitCount) ⟨Nat.le_of_ble_eq_true rfl, Nat.le_of_ble_eq_true rfl⟩ rfl (Nat.le_of_ble_eq_true rfl) (fun σ' z hz => ?_))
            rw [hz.1, hz.2]
            clear hz z σ'
            rw [bcP (s := z2) z2b]
            refine ok_iload 35 rfl rfl rfl (ok_callSI (M' := M_Ji_bitCount) (as := [_]) 36 rfl rfl ml_X11_218 (s_Ji_bitCount) ⟨Nat.le_of_ble_eq_true rfl, Nat.le_of_ble_eq_true rfl⟩ rfl (Nat.le_of_ble_eq_true rfl) (fun σ' z hz => ?_))
            rw [hz.1, hz.2]
            clear hz z σ'
            rw [bcP (s := z3) x3.1]
            refine ok_isub 37 rfl rfl (by first | omega | (simp [up_if]; omega) | (simp [up_if] at *; omega)) (ok_iret 38 rfl rfl rfl ?_)
            refine ⟨_, rfl, rfl, Or.inr ⟨⟨⟨q1, q2, q3⟩, by unfold isL; omega, by omega, by omega⟩, ?_⟩⟩
            unfold lackV
            rw [if_pos (by omega), ← eop, lf, ← x2]
            unfold lkF
            rw [cz]
        · refine ok_iconst 14 rfl rfl (by decide) (ok_iret 15 rfl rfl rfl ?_)
          refine ⟨_, rfl, rfl, Or.inl ⟨fun c => ?_, rfl⟩⟩
          obtain ⟨c1, c2, c3, c4⟩ := c
          unfold isL at c2
          omega
theorem bt_sB' {s j k : Int} (hj : 0 ≤ j) (hk : 0 ≤ k) : bt (sB s j) k = true ↔ (bt s k = true ∨ k = j) := by rw [bt_sB hj hk]; simp
theorem t_Mo_joined {σ : eS} {s T l : Int} (hB : iB1 σ) (ht : tabB σ s) (hT : 0 ≤ T ∧ T < 256) : MtI shB M_Mo_joined [vr 0, vi s, vi T, vi l] σ (fun σ' z => σ' = σ ∧ cOp (σ 1 s) (fun i j => l ≤ cB σ s i j) T z) := by
  refine Mt.of okM_Mo_joined (Nat.le_of_ble_eq_true rfl) (fun hk hg => ?_)
  obtain ⟨u1, u2, u3⟩ := ht
  have tn := hB.1 s u1 u2
  obtain ⟨z1, z2, z3, -⟩ := bit2 (n := σ 1 s) ⟨by omega, by omega⟩
  refine ok_iconst 0 rfl rfl (by decide) (ok_ist4 1 rfl rfl rfl (ok_iconst 2 rfl rfl (by decide) (ok_ist5 3 rfl rfl rfl ?_)))
  refine lpO2 (fun v i : Int => [some (vr 0), some (vi s), some (vi T), some (vi l), some (vi v), some (vi i), none]) (fun _ _ => σ) (fun v i => 0 ≤ i ∧ i ≤ σ 1 s ∧ 0 ≤ v ∧ v < p2 (σ 1 s) ∧ ∀ c, 0 ≤ c → c < 8 → (bt v c = true ↔ (c < σ 1 s ∧ ∃ r, 0 ≤ r ∧ r < i ∧ bt T r = true ∧ l ≤ cB σ s r c))) (fun _ i => (σ 1 s - i).toNat) ?_ 0 0 ⟨by omega, by omega, by omega, by omega, fun c a b => by rw [bt_0]; constructor; intro q; cases q; rintro ⟨-, r, q1, q2, -⟩; omega⟩
  rintro v i ⟨i1, i2, v1, v2, v3⟩ ih
  refine ok_iload 4 rfl rfl rfl (ok_aload_n 5 rfl rfl rfl (ok_getR 6 rfl rfl fl_X12_7 rfl rfl (ok_iload_n 7 rfl rfl rfl (ok_iald 8 rfl rfl rfl (by first | omega | (simp [up_if]; omega) | (simp [up_if] at *; omega)) (ok_icmp_ge 9 75 rfl rfl rfl (fun h14 => ?_) (fun h14 => ?_))))))
  · refine ok_iload 42 rfl rfl rfl (ok_iret 43 rfl rfl rfl ?_)
    exact ⟨_, rfl, rfl, ⟨v1, by omega⟩, fun c a b => by rw [v3 c a b, show i = σ 1 s by omega]⟩
  · refine ok_iconst 10 rfl rfl (by decide) (ok_ist6 11 rfl rfl rfl ?_)
    have il : i < σ 1 s := by omega
    refine lpO2 (fun v j : Int => [some (vr 0), some (vi s), some (vi T), some (vi l), some (vi v), some (vi i), some (vi j)]) (fun _ _ => σ) (fun v j => 0 ≤ j ∧ j ≤ σ 1 s ∧ 0 ≤ v ∧ v < p2 (σ 1 s) ∧ ∀ c, 0 ≤ c → c < 8 → (bt v c = true ↔ (c < σ 1 s ∧ ∃ r, 0 ≤ r ∧ (r < i ∨ (r = i ∧ c < j)) ∧ bt T r = true ∧ l ≤ cB σ s r c))) (fun _ j => (σ 1 s - j).toNat) ?_ v 0 ⟨by omega, by omega, by omega, by omega, fun c a b => by rw [v3 c a b]; exact ⟨fun ⟨q, r, r1, r2, r3⟩ => ⟨q, r, r1, Or.inl r2, r3⟩, fun ⟨q, r, r1, r2, r3⟩ => ⟨q, r, r1, by omega, r3⟩⟩⟩
    clear v1 v2 v3 v
    rintro v j ⟨j1, j2, v1, v2, v3⟩ ih2
    refine ok_iload 12 rfl rfl rfl (ok_aload_n 13 rfl rfl rfl (ok_getR 14 rfl rfl fl_X12_7 rfl rfl (ok_iload_n 15 rfl rfl rfl (ok_iald 16 rfl rfl rfl (by first | omega | (simp [up_if]; omega) | (simp [up_if] at *; omega)) (ok_icmp_ge 17 69 rfl rfl rfl (fun h28 => ?_) (fun h28 => ?_))))))
    · refine ok_inc5 40 rfl rfl rfl (by first | omega | (simp [up_if]; omega) | (simp [up_if] at *; omega)) (ok_goto 41 6 rfl rfl rfl ?_)
      exact ok_fg [some (vr 0), some (vi s), some (vi T), some (vi l), some (vi _), some (vi (i + 1)), none] ⟨rfl, rfl, rfl, rfl, rfl, rfl, trivial⟩ (ih _ (i + 1) ⟨by omega, by omega, by omega, by omega, fun c a b => by rw [v3 c a b]; exact ⟨fun ⟨q, r, r1, r2, r3⟩ => ⟨q, r, r1, by omega, r3⟩, fun ⟨q, r, r1, r2, r3⟩ => ⟨q, r, r1, by omega, r3⟩⟩⟩ (by omega))
    · have e2 := bitP (s := v) (j := j) (by omega) (by omega)
      have bz := bitG (s := T) (j := i) hT ⟨by omega, by omega⟩
      obtain ⟨l1, l2⟩ := sB_lt (s := v) (j := j) (n := σ 1 s) ⟨v1, v2⟩ ⟨j1, by omega⟩
      have stay : ¬ (bt T i = true ∧ l ≤ cB σ s i j) → ∀ c, 0 ≤ c → c < 8 → (bt v c = true ↔ (c < σ 1 s ∧ ∃ r, 0 ≤ r ∧ (r < i ∨ (r = i ∧ c < j + 1)) ∧ bt T r = true ∧ l ≤ cB σ s r c)) := fun hno c a b => by
        rw [v3 c a b]
        constructor
        · rintro ⟨q, r, r1, r2, r3⟩; exact ⟨q, r, r1, by omega, r3⟩
        · rintro ⟨q, r, r1, r2, r3, r4⟩
          by_cases w : r = i ∧ c = j
          · rw [w.1] at r3; rw [w.1, w.2] at r4; exact absurd ⟨r3, r4⟩ hno
          · exact ⟨q, r, r1, by omega, r3, r4⟩
      refine ok_iload_n 18 rfl rfl rfl (ok_iload 19 rfl rfl rfl (ok_ishr 20 rfl rfl (ok_iconst 21 rfl rfl (by decide) (ok_iand 22 rfl rfl (ok_iconst 23 rfl rfl (by decide) ?_)))))
      rw [bz]
      refine ok_icmp_ne 24 63 rfl rfl rfl (fun h38 => ?_) (fun h38 => ?_)
      · refine ok_inc6 38 rfl rfl rfl (by first | omega | (simp [up_if]; omega) | (simp [up_if] at *; omega)) (ok_goto 39 20 rfl rfl rfl ?_)
        refine ih2 _ (j + 1) ⟨by omega, by omega, by omega, by omega, stay (fun q => ?_)⟩ (by omega)
        rw [if_pos q.1] at h38; exact h38 rfl
      · refine ok_aload_n 25 rfl rfl rfl (ok_iload_n 26 rfl rfl rfl (ok_iload 27 rfl rfl rfl (ok_iload 28 rfl rfl rfl (ok_callVI (M' := M_Mo_at) (as := [_, _, _]) 29 rfl rfl ml_X12_107 (s_Mo_at hB ⟨u1, u2⟩ ⟨by omega, by omega⟩ ⟨by omega, by omega⟩) rfl rfl (Nat.le_of_ble_eq_true rfl) ⟨Nat.le_of_ble_eq_true rfl, Nat.le_of_ble_eq_true rfl⟩ rfl (Nat.le_of_ble_eq_true rfl) (fun σ' z hz => ?_)))))
        rw [hz.1, hz.2]
        clear hz z σ'
        refine ok_iload_n 30 rfl rfl rfl (ok_icmp_lt 31 63 rfl rfl rfl (fun h51 => ?_) (fun h51 => ?_))
        · refine ok_inc6 38 rfl rfl rfl (by first | omega | (simp [up_if]; omega) | (simp [up_if] at *; omega)) (ok_goto 39 20 rfl rfl rfl ?_)
          exact ih2 _ (j + 1) ⟨by omega, by omega, by omega, by omega, stay (fun q => by have := q.2; omega)⟩ (by omega)
        · refine ok_iload 32 rfl rfl rfl (ok_iconst 33 rfl rfl (by decide) (ok_iload 34 rfl rfl rfl (ok_ishl 35 rfl rfl (ok_ior 36 rfl rfl ?_))))
          rw [e2]
          refine ok_ist4 37 rfl rfl rfl (ok_inc6 38 rfl rfl rfl (by first | omega | (simp [up_if]; omega) | (simp [up_if] at *; omega)) (ok_goto 39 20 rfl rfl rfl ?_))
          have hb : bt T i = true := by
            by_cases q : bt T i = true
            · exact q
            · rw [if_neg q] at h38; omega
          refine ih2 _ (j + 1) ⟨by omega, by omega, by omega, by omega, fun c a b => ?_⟩ (by omega)
          rw [bt_sB' j1 a, v3 c a b]
          constructor
          · rintro (⟨q, r, r1, r2, r3⟩ | q)
            · exact ⟨q, r, r1, by omega, r3⟩
            · rw [q]; exact ⟨by omega, i, i1, by omega, hb, by omega⟩
          · rintro ⟨q, r, r1, r2, r3, r4⟩
            by_cases w : c = j
            · exact Or.inr w
            · exact Or.inl ⟨q, r, r1, by omega, r3, r4⟩
theorem t_Mo_lack {σ : eS} {s l w : Int} (hB : iB1 σ) : MtI shB M_Mo_lack [vr 0, vi s, vi l, vi w] σ (fun σ' z => σ' = σ ∧ ((¬ okL (tabB σ s) l w ∧ z = -1) ∨ (okL (tabB σ s) l w ∧ z = lackV (σ 1 s) (fun i j => l ≤ cB σ s i j) w))) := by
  refine Mt.of okM_Mo_lack (Nat.le_of_ble_eq_true rfl) (fun hk hg => ?_)
  refine ok_aload_n 0 rfl rfl rfl (ok_iload_n 1 rfl rfl rfl (ok_callVI (M' := M_Mo_isTable) (as := [_]) 2 rfl rfl ml_X12_111 (s_Mo_isTable_r) rfl rfl (Nat.le_of_ble_eq_true rfl) ⟨Nat.le_of_ble_eq_true rfl, Nat.le_of_ble_eq_true rfl⟩ rfl (Nat.le_of_ble_eq_true rfl) (fun σ' z1 a1 => ?_)))
  obtain ⟨hs_, a1⟩ := a1
  rw [hs_]; clear hs_ σ'
  refine ok_if_eq 3 27 rfl rfl rfl (fun h5 => ?_) (fun h5 => ?_)
  · refine ok_iconst 13 rfl rfl (by decide) (ok_iret 14 rfl rfl rfl ?_)
    exact ⟨_, rfl, rfl, Or.inl ⟨fun q => no1 a1 h5 q.1, rfl⟩⟩
  · refine ok_iload_n 4 rfl rfl rfl (ok_callSI (M' := M_Mo_isLeast) (as := [_]) 5 rfl rfl ml_X12_343 (s_Mo_isLeast) ⟨Nat.le_of_ble_eq_true rfl, Nat.le_of_ble_eq_true rfl⟩ rfl (Nat.le_of_ble_eq_true rfl) (fun σ' z2 a2 => ?_))
    obtain ⟨hs_, a2⟩ := a2
    rw [hs_]; clear hs_ σ'
    refine ok_if_eq 6 27 rfl rfl rfl (fun h12 => ?_) (fun h12 => ?_)
    · refine ok_iconst 13 rfl rfl (by decide) (ok_iret 14 rfl rfl rfl ?_)
      exact ⟨_, rfl, rfl, Or.inl ⟨fun q => no1 a2 h12 q.2.1, rfl⟩⟩
    · refine ok_iload_n 7 rfl rfl rfl (ok_i2l 8 rfl rfl (ok_lconst (w := 0) 9 rfl rfl rfl (by decide) (ok_ldc2 10 (2) rfl rfl kc_X12_306 (by decide) (ok_callSI (M' := M_Mo_isIn) (as := [_, _, _]) 11 rfl rfl ml_X12_99 (s_Mo_isIn_r) ⟨Nat.le_of_ble_eq_true rfl, Nat.le_of_ble_eq_true rfl⟩ rfl (Nat.le_of_ble_eq_true rfl) (fun σ' z3 a3 => ?_)))))
      obtain ⟨hs_, a3⟩ := a3
      rw [hs_]; clear hs_ σ'
      refine ok_if_ne 12 29 rfl rfl rfl (fun h24 => ?_) (fun h24 => ?_)
      · refine ok_iconst 15 rfl rfl (by decide) (ok_ist4 16 rfl rfl rfl (ok_iconst 17 rfl rfl (by decide) (ok_ist5 18 rfl rfl rfl (ok_iconst 19 rfl rfl (by decide) (ok_ist6 20 rfl rfl rfl ?_)))))
        have ht := yes1 a1 h5
        have hw := yes1 a3 h24
        have hl : isL l := yes1 a2 h12
        obtain ⟨u1, u2, u3⟩ := id ht
        have tn := hB.1 s u1 u2
        obtain ⟨z1, z2, z3, -⟩ := bit2 (n := σ 1 s) ⟨by omega, by omega⟩
        obtain ⟨op, eop⟩ : ∃ op : Int → Int → Prop, op = fun i j => l ≤ cB σ s i j := ⟨_, rfl⟩
        obtain ⟨n, en⟩ : ∃ n, n = σ 1 s := ⟨_, rfl⟩
        rw [← eop, ← en]
        rw [← en] at z1 z2 z3
        refine lpO3 (fun T b k : Int => [some (vr 0), some (vi s), some (vi l), some (vi w), some (vi T), some (vi b), some (vi k), none]) (fun _ _ _ => σ) (fun T b k => 1 ≤ k ∧ k ≤ p2 n ∧ (T, b) = lkB (lkF n op) (k - 1).toNat) (fun _ _ k => (256 - k).toNat) ?_ 0 0 1 ⟨by omega, by omega, rfl⟩
        rintro T b k ⟨k1, k2, e⟩ ih
        have tb := lkB_bd (f := lkF n op) (k - 1).toNat
        rw [← e] at tb
        dsimp only at tb
        refine ok_iload 21 rfl rfl rfl (ok_iconst 22 rfl rfl (by decide) (ok_aload_n 23 rfl rfl rfl (ok_getR 24 rfl rfl fl_X12_7 rfl rfl (ok_iload_n 25 rfl rfl rfl (ok_iald 26 rfl rfl rfl (by first | omega | (simp [up_if]; omega) | (simp [up_if] at *; omega)) (ok_ishl 27 rfl rfl ?_))))))
        rw [← en, z1]
        refine ok_icmp_ge 28 94 rfl rfl rfl (fun h48 => ?_) (fun h48 => ?_)
        · have ek : k - 1 = p2 n - 1 := by omega
          rw [ek] at e
          refine ok_iload_n 49 rfl rfl rfl (ok_if_ne 50 103 rfl rfl rfl (fun h95 => ?_) (fun h95 => ?_))
          · refine ok_iload_n 53 rfl rfl rfl (ok_iconst 54 rfl rfl (by decide) (ok_icmp_ne 55 113 rfl rfl rfl (fun h105 => ?_) (fun h105 => ?_)))
            · refine ok_aload_n 58 rfl rfl rfl (ok_iload_n 59 rfl rfl rfl (ok_iload 60 rfl rfl rfl (ok_iload_n 61 rfl rfl rfl (ok_callVI (M' := M_Mo_joined) (as := [_, _, _]) 62 rfl rfl ml_X12_346 (t_Mo_joined hB ht ⟨by omega, by omega⟩) rfl rfl (Nat.le_of_ble_eq_true rfl) ⟨Nat.le_of_ble_eq_true rfl, Nat.le_of_ble_eq_true rfl⟩ rfl (Nat.le_of_ble_eq_true rfl) (fun σ' y hy => ?_)))))
              obtain ⟨hs_, hy⟩ := hy
              rw [hs_]; clear hs_ σ'
              rw [← eop, ← en] at hy
              have cz := cP_eq hy
              refine ok_iret 63 rfl rfl rfl ?_
              refine ⟨_, rfl, rfl, Or.inr ⟨⟨ht, hl, hw⟩, ?_⟩⟩
              unfold lackV
              rw [← e]
              dsimp only
              first | rw [if_pos (by omega)] | rw [if_neg (by omega), if_pos (by omega)] | (rw [if_neg (by omega), if_neg (by omega)]; exact cz.symm)
            · refine ok_iload 56 rfl rfl rfl (ok_goto 57 121 rfl rfl rfl (ok_iret 63 rfl rfl rfl ?_))
              refine ⟨_, rfl, rfl, Or.inr ⟨⟨ht, hl, hw⟩, ?_⟩⟩
              unfold lackV
              rw [← e]
              dsimp only
              first | rw [if_pos (by omega)] | rw [if_neg (by omega), if_pos (by omega)] | (rw [if_neg (by omega), if_neg (by omega)]; exact cz.symm)
          · refine ok_iload 51 rfl rfl rfl (ok_goto 52 121 rfl rfl rfl (ok_iret 63 rfl rfl rfl ?_))
            refine ⟨_, rfl, rfl, Or.inr ⟨⟨ht, hl, hw⟩, ?_⟩⟩
            unfold lackV
            rw [← e]
            dsimp only
            first | rw [if_pos (by omega)] | rw [if_neg (by omega), if_pos (by omega)] | (rw [if_neg (by omega), if_neg (by omega)]; exact cz.symm)
        · have b1 := (bitL (s := k) (n := 8) (by omega) (by omega)).2.2
          refine ok_iload 29 rfl rfl rfl (ok_callSI (M' := M_Mo_bits) (as := [_]) 30 rfl rfl ml_X12_241 (s_Mo_bits ⟨by omega, by omega⟩) ⟨Nat.le_of_ble_eq_true rfl, Nat.le_of_ble_eq_true rfl⟩ rfl (Nat.le_of_ble_eq_true rfl) (fun σ' z hz => ?_))
          rw [hz.1, hz.2]
          clear hz z σ'
          refine ok_aload_n 31 rfl rfl rfl (ok_iload_n 32 rfl rfl rfl (ok_iload 33 rfl rfl rfl (ok_iload_n 34 rfl rfl rfl (ok_callVI (M' := M_Mo_joined) (as := [_, _, _]) 35 rfl rfl ml_X12_346 (t_Mo_joined hB ht ⟨by omega, by omega⟩) rfl rfl (Nat.le_of_ble_eq_true rfl) ⟨Nat.le_of_ble_eq_true rfl, Nat.le_of_ble_eq_true rfl⟩ rfl (Nat.le_of_ble_eq_true rfl) (fun σ' y hy => ?_)))))
          obtain ⟨hs_, hy⟩ := hy
          rw [hs_]; clear hs_ σ'
          rw [← eop, ← en] at hy
          have cz := cP_eq hy
          have b2 := (bitL (s := y) (n := 8) hy.1 (by omega)).2.2
          refine ok_callSI (M' := M_Mo_bits) (as := [_]) 36 rfl rfl ml_X12_241 (s_Mo_bits hy.1) ⟨Nat.le_of_ble_eq_true rfl, Nat.le_of_ble_eq_true rfl⟩ rfl (Nat.le_of_ble_eq_true rfl) (fun σ' z hz => ?_)
          rw [hz.1, hz.2]
          clear hz z σ'
          refine ok_isub 37 rfl rfl (by first | omega | (simp [up_if]; omega) | (simp [up_if] at *; omega)) (ok_ist7 38 rfl rfl rfl (ok_iload 39 rfl rfl rfl (ok_iload 40 rfl rfl rfl (ok_icmp_gt 41 80 rfl rfl rfl (fun h74 => ?_) (fun h74 => ?_)))))
          · refine ok_iload 43 rfl rfl rfl (ok_ist4 44 rfl rfl rfl (ok_iload 45 rfl rfl rfl (ok_ist5 46 rfl rfl rfl (ok_inc6 47 rfl rfl rfl (by first | omega | (simp [up_if]; omega) | (simp [up_if] at *; omega)) (ok_goto 48 38 rfl rfl rfl ?_)))))
            have es := lkB_s (f := lkF n op) (k := k) (by omega)
            rw [← e] at es
            have fj : lkF n op k = pc k - pc y := by unfold lkF; rw [cz]
            rw [fj] at es
            dsimp only at es
            refine ok_fg [some (vr 0), some (vi s), some (vi l), some (vi w), some (vi _), some (vi _), some (vi (k + 1)), none] ⟨rfl, rfl, rfl, rfl, rfl, rfl, rfl, trivial⟩ (ih _ _ (k + 1) ⟨by omega, by omega, ?_⟩ (by omega))
            rw [show k + 1 - 1 = k by omega, es]
            first | rw [if_pos (by omega)] | rw [if_neg (by omega)]
          · refine ok_goto 42 88 rfl rfl rfl (ok_inc6 47 rfl rfl rfl (by first | omega | (simp [up_if]; omega) | (simp [up_if] at *; omega)) (ok_goto 48 38 rfl rfl rfl ?_))
            have es := lkB_s (f := lkF n op) (k := k) (by omega)
            rw [← e] at es
            have fj : lkF n op k = pc k - pc y := by unfold lkF; rw [cz]
            rw [fj] at es
            dsimp only at es
            refine ok_fg [some (vr 0), some (vi s), some (vi l), some (vi w), some (vi _), some (vi _), some (vi (k + 1)), none] ⟨rfl, rfl, rfl, rfl, rfl, rfl, rfl, trivial⟩ (ih _ _ (k + 1) ⟨by omega, by omega, ?_⟩ (by omega))
            rw [show k + 1 - 1 = k by omega, es]
            first | rw [if_pos (by omega)] | rw [if_neg (by omega)]
      · refine ok_iconst 13 rfl rfl (by decide) (ok_iret 14 rfl rfl rfl ?_)
        exact ⟨_, rfl, rfl, Or.inl ⟨fun q => no1 a3 h24 q.2.2, rfl⟩⟩
end
section
/-! PERMANENTS: sums over sets of columns, exactly -/
theorem bit_xp : ∀ s : Fin 256, ∀ j : Fin 8, bt (s.val : Int) (j.val : Int) = true → pc (ixor (s.val : Int) (ishl 1 (j.val : Int))) = pc (s.val : Int) - 1 ∧ sB (ixor (s.val : Int) (ishl 1 (j.val : Int))) (j.val : Int) = (s.val : Int) ∧ bt (ixor (s.val : Int) (ishl 1 (j.val : Int))) (j.val : Int) = false := by decide +kernel
theorem bitXp {s j : Int} (h1 : 0 ≤ s ∧ s < 256) (h2 : 0 ≤ j ∧ j < 8) (h : bt s j = true) : pc (ixor s (ishl 1 j)) = pc s - 1 ∧ sB (ixor s (ishl 1 j)) j = s ∧ bt (ixor s (ishl 1 j)) j = false := fin2 (P := fun s j => bt s j = true → pc (ixor s (ishl 1 j)) = pc s - 1 ∧ sB (ixor s (ishl 1 j)) j = s ∧ bt (ixor s (ishl 1 j)) j = false) bit_xp h1.1 h1.2 h2.1 h2.2 h
theorem pc_bd {s n : Int} (hn : 0 ≤ n ∧ n ≤ 8) (h : 0 ≤ s ∧ s < p2 n) : 0 ≤ pc s ∧ pc s ≤ n := by
  have b := bit2 hn
  have c := bitL (s := s) (n := n) ⟨h.1, by omega⟩ hn
  rcases (by omega : s < p2 n - 1 ∨ s = p2 n - 1) with q | q
  · have := c.1 q; omega
  · have := c.2.1 q; omega
theorem sm_mo {f : Int → Int} : ∀ {n m : Nat}, n ≤ m → (∀ k : Int, 0 ≤ k → k < m → 0 ≤ f k) → sm f n ≤ sm f m
  | n, 0, h, _ => by rw [show n = 0 by omega]; exact Int.le_refl _
  | n, m + 1, h, hf => by
    rcases (by omega : n = m + 1 ∨ n ≤ m) with q | q
    · rw [q]; exact Int.le_refl _
    · have a := sm_mo q (fun k x y => hf k x (by omega))
      have b := hf m (by omega) (by omega)
      show sm f n ≤ sm f m + f m
      omega
theorem sm_nx {f : Int → Int} {n : Nat} (h : ∀ k : Int, 0 ≤ k → k < n → 0 ≤ f k) : 0 ≤ sm f n := sm_mo (n := 0) (Nat.zero_le _) h
def PMk (n : Nat) (w : Int → Int → Int) : Nat → Int → Int
  | 0, _ => 1
  | k + 1, s => sm (fun j => if bt s j = true then w (k : Int) j * PMk n w k (ixor s (ishl 1 j)) else 0) n
def PMv (n : Int) (w : Int → Int → Int) (s : Int) : Int := PMk n.toNat w (pc s).toNat s
def PMt (n : Int) (w : Int → Int → Int) (s j : Int) : Int := if bt s j = true then w (pc s - 1) j * PMv n w (ixor s (ishl 1 j)) else 0
theorem PMv_0 (n : Int) (w : Int → Int → Int) : PMv n w 0 = 1 := by unfold PMv; rw [pc_0]; rfl
theorem PMv_eq {n : Int} {w : Int → Int → Int} {s : Int} (hn : 0 ≤ n ∧ n ≤ 8) (h : 1 ≤ s ∧ s < 256) : PMv n w s = sm (PMt n w s) n.toNat := by
  have p := pc1 (s := s) ⟨by omega, h.2⟩ (by omega)
  obtain ⟨m, hm⟩ : ∃ m : Nat, (pc s).toNat = m + 1 := ⟨(pc s).toNat - 1, by omega⟩
  unfold PMv
  rw [hm, PMk]
  refine sm_cg (fun j j0 jn => ?_)
  unfold PMt
  by_cases q : bt s j = true
  · rw [if_pos q, if_pos q]
    have x := bitXp (s := s) (j := j) ⟨by omega, h.2⟩ ⟨j0, by omega⟩ q
    unfold PMv
    rw [x.1, show (pc s - 1).toNat = m by omega, show pc s - 1 = (m : Int) by omega]
  · rw [if_neg q, if_neg q]
theorem PMk_nn {n : Nat} {w : Int → Int → Int} (hw : ∀ i j : Int, 0 ≤ i → i < n → 0 ≤ j → j < n → 0 ≤ w i j) : ∀ k : Nat, k ≤ n → ∀ s : Int, 0 ≤ PMk n w k s
  | 0, _, s => by show (0 : Int) ≤ 1; decide
  | k + 1, h, s => by
    rw [PMk]
    refine sm_nx (fun j j0 jn => ?_)
    split
    · exact Int.mul_nonneg (hw k j (by omega) (by omega) j0 jn) (PMk_nn hw k (by omega) _)
    · exact Int.le_refl _
theorem PMv_nn {n : Int} {w : Int → Int → Int} (hn : 0 ≤ n ∧ n ≤ 8) (hw : ∀ i j, 0 ≤ i → i < n → 0 ≤ j → j < n → 0 ≤ w i j) {s : Int} (h : 0 ≤ s ∧ s < p2 n) : 0 ≤ PMv n w s := by
  have p := pc_bd hn h
  exact PMk_nn (fun i j a b c d => hw i j a (by omega) c (by omega)) _ (by omega) s
theorem xb_lt {n s j : Int} (hn : 0 ≤ n ∧ n ≤ 8) (h : 0 ≤ s ∧ s < p2 n) (hj : 0 ≤ j ∧ j < 8) (hb : bt s j = true) : 0 ≤ ixor s (ishl 1 j) ∧ ixor s (ishl 1 j) < s := by
  have b := bit2 hn
  exact bitX ⟨h.1, by omega⟩ hj hb
theorem PMt_nn {n : Int} {w : Int → Int → Int} (hn : 0 ≤ n ∧ n ≤ 8) (hw : ∀ i j, 0 ≤ i → i < n → 0 ≤ j → j < n → 0 ≤ w i j) {s : Int} (h : 1 ≤ s ∧ s < p2 n) {j : Int} (j0 : 0 ≤ j) (jn : j < n) : 0 ≤ PMt n w s j := by
  have b := bit2 hn
  have p := pc_bd hn ⟨by omega, h.2⟩
  have p1 := pc1 (s := s) ⟨by omega, by omega⟩ (by omega)
  unfold PMt
  split
  · next q =>
    have x := xb_lt hn ⟨by omega, h.2⟩ ⟨j0, by omega⟩ q
    exact Int.mul_nonneg (hw _ j (by omega) (by omega) j0 jn) (PMv_nn hn hw ⟨x.1, by omega⟩)
  · exact Int.le_refl _
theorem PMk_cg {n : Nat} {w w' : Int → Int → Int} (e : ∀ i j : Int, 0 ≤ i → i < n → 0 ≤ j → j < n → w i j = w' i j) : ∀ k : Nat, k ≤ n → ∀ s : Int, PMk n w k s = PMk n w' k s
  | 0, _, s => rfl
  | k + 1, h, s => by
    rw [PMk, PMk]
    refine sm_cg (fun j j0 jn => ?_)
    rw [e k j (by omega) (by omega) j0 jn, PMk_cg e k (by omega)]
theorem PMv_cg {n : Int} {w w' : Int → Int → Int} (hn : 0 ≤ n ∧ n ≤ 8) (e : ∀ i j, 0 ≤ i → i < n → 0 ≤ j → j < n → w i j = w' i j) {s : Int} (h : 0 ≤ s ∧ s < p2 n) : PMv n w s = PMv n w' s := by
  have p := pc_bd hn h
  exact PMk_cg (fun i j a b c d => e i j a (by omega) c (by omega)) _ (by omega) s
/-- what the sums of all sets answer: beyond, or the whole -/
def pmA (n : Int) (w : Int → Int → Int) (z : Int) : Prop := (z = -2 ∧ ∃ s, 1 ≤ s ∧ s < p2 n ∧ 9223372036854775807 < PMv n w s) ∨ (z = PMv n w (p2 n - 1) ∧ ∀ s, 0 ≤ s → s < p2 n → PMv n w s ≤ 9223372036854775807)
theorem pmA_un {n : Int} {w w' : Int → Int → Int} {z z' : Int} (hn : 1 ≤ n ∧ n ≤ 8) (e : ∀ i j, 0 ≤ i → i < n → 0 ≤ j → j < n → w i j = w' i j) (h : pmA n w z) (h' : pmA n w' z') : z = z' := by
  have b := bit2 (n := n) ⟨by omega, hn.2⟩
  have c := fun s a1 a2 => PMv_cg (s := s) (n := n) ⟨by omega, hn.2⟩ e ⟨a1, a2⟩
  rcases h with ⟨a1, s, a2, a3, a4⟩ | ⟨a1, a2⟩ <;> rcases h' with ⟨b1, s', b2, b3, b4⟩ | ⟨b1, b2⟩
  · omega
  · have := b2 s (by omega) a3
    rw [c s (by omega) a3] at a4
    omega
  · have := a2 s' (by omega) b3
    rw [c s' (by omega) b3] at this
    omega
  · rw [a1, b1, c _ (by omega) (by omega)]
theorem t_Ch_multiplySet {σ : eS} {c : Nat} {s n : Int} (hs : nth shA c = some (1, 64, [])) (hn : 0 ≤ n ∧ n ≤ 8) (h1 : 1 ≤ s ∧ s < p2 n) (hc : ∀ k : Int, 0 ≤ k → k < 64 → 0 ≤ σ c k ∧ σ c k ≤ 799999992) (hv : ∀ k, 0 ≤ k → k < s → σ 18 k = PMv n (fun i j => σ c (i * 8 + j)) k) : MtL shA M_Ch_multiplySet [vr 16, vr c, vi s, vi n] σ (fun σ' z => σ' = σ ∧ ((z = -2 ∧ 9223372036854775807 < PMv n (fun i j => σ c (i * 8 + j)) s) ∨ (z = PMv n (fun i j => σ c (i * 8 + j)) s ∧ 0 ≤ z ∧ z ≤ 9223372036854775807))) := by
  refine Mt.of okM_Ch_multiplySet (Nat.le_of_ble_eq_true rfl) (fun hk hg => ?_)
  have b2 := bit2 hn
  have h2 : 1 ≤ s ∧ s < 256 := ⟨h1.1, by omega⟩
  obtain ⟨w, ew⟩ : ∃ w : Int → Int → Int, w = fun i j => σ c (i * 8 + j) := ⟨_, rfl⟩
  rw [← ew] at hv ⊢
  have hw : ∀ i j, 0 ≤ i → i < n → 0 ≤ j → j < n → 0 ≤ w i j := fun i j a b d e => by rw [ew]; exact (hc _ (by omega) (by omega)).1
  have p1 := pc_bd hn (s := s) ⟨by omega, h1.2⟩
  have p3 := pc1 (s := s) ⟨by omega, by omega⟩ (by omega)
  have tn : ∀ k : Int, 0 ≤ k → k < (n.toNat : Int) → 0 ≤ PMt n w s k := fun k a b => PMt_nn hn hw h1 a (by omega)
  rw [PMv_eq hn h2]
  refine ok_iload_n 0 rfl rfl rfl (ok_callSI (M' := M_Ji_bitCount) (as := [_]) 1 rfl rfl ml_X0_38 (s_Ji_bitCount) ⟨Nat.le_of_ble_eq_true rfl, Nat.le_of_ble_eq_true rfl⟩ rfl (Nat.le_of_ble_eq_true rfl) (fun σ' z hz => ?_))
  rw [hz.1, hz.2]
  clear hz z σ'
  rw [bcP (s := s) ⟨by omega, by omega⟩]
  refine ok_iconst 2 rfl rfl (by decide) (ok_isub 3 rfl rfl (by first | omega | (simp [up_if]; omega) | (simp [up_if] at *; omega)) (ok_ist4 4 rfl rfl rfl (ok_lconst (w := 0) 5 rfl rfl rfl (by decide) (ok_lst5 6 rfl rfl rfl (ok_iconst 7 rfl rfl (by decide) (ok_ist7 8 rfl rfl rfl ?_))))))
  refine lpO2 (fun (v j : Int) => [some (vr 16), some (vr c), some (vi s), some (vi n), some (vi (pc s - 1)), some (vl v), none, some (vi j), none, none, none]) (fun _ _ => σ) (fun v j => 0 ≤ j ∧ j ≤ n ∧ 0 ≤ v ∧ v ≤ 9223372036854775807 ∧ v = sm (PMt n w s) j.toNat) (fun _ j => (8 - j).toNat) ?_ 0 0 ⟨by omega, by omega, by omega, by omega, rfl⟩
  rintro v j ⟨j1, j2, v1, v2, v3⟩ ih
  have es := sm_s (PMt n w s) j1
  rw [← v3] at es
  refine ok_iload 9 rfl rfl rfl (ok_iload_n 10 rfl rfl rfl (ok_icmp_ge 11 96 rfl rfl rfl (fun h17 => ?_) (fun h17 => ?_)))
  · refine ok_lload 57 rfl rfl rfl (ok_lret 58 rfl rfl rfl ?_)
    exact ⟨_, rfl, rfl, Or.inr ⟨by rw [v3, show j = n by omega], v1, v2⟩⟩
  · have bz := b_nz (s := s) (j := j) ⟨by omega, by omega⟩ ⟨by omega, by omega⟩
    have cb := hc ((pc s - 1) * 8 + j) (by omega) (by omega)
    have wj : w (pc s - 1) j = σ c ((pc s - 1) * 8 + j) := by rw [ew]
    refine ok_aload_n 12 rfl rfl rfl (ok_iload 13 rfl rfl rfl (ok_bipush 14 rfl rfl (by decide) (by decide) (ok_imul 15 rfl rfl (by first | omega | (simp [up_if]; omega) | (simp [up_if] at *; omega)) (ok_iload 16 rfl rfl rfl (ok_iadd 17 rfl rfl (by first | omega | (simp [up_if]; omega) | (simp [up_if] at *; omega)) (ok_iald 18 rfl rfl hs (by first | omega | (simp [up_if]; omega) | (simp [up_if] at *; omega)) (ok_ist8 19 rfl rfl rfl (ok_iload_n 20 rfl rfl rfl (ok_iload 21 rfl rfl rfl (ok_ishr 22 rfl rfl (ok_iconst 23 rfl rfl (by decide) (ok_iand 24 rfl rfl (ok_if_eq 25 90 rfl rfl rfl (fun h38 => ?_) (fun h38 => ?_))))))))))))))
    · refine ok_inc7 55 rfl rfl rfl (by first | omega | (simp [up_if]; omega) | (simp [up_if] at *; omega)) (ok_goto 56 14 rfl rfl rfl ?_)
      have t0 : PMt n w s j = 0 := by
        unfold PMt
        by_cases q : bt s j = true
        · rw [if_pos q, wj]
          have : σ c ((pc s - 1) * 8 + j) = 0 := by
            have := bz.1.mpr q
            omega
          rw [this, Int.zero_mul]
        · rw [if_neg q]
      exact ok_fg [some (vr 16), some (vr c), some (vi s), some (vi n), some (vi (pc s - 1)), some (vl v), none, some (vi (j + 1)), none, none, none] ⟨rfl, rfl, rfl, rfl, rfl, rfl, rfl, trivial⟩ (ih v (j + 1) ⟨by omega, by omega, by omega, by omega, by rw [es, t0]; omega⟩ (by omega))
    · refine ok_iload 26 rfl rfl rfl (ok_if_le 27 90 rfl rfl rfl (fun h43 => ?_) (fun h43 => ?_))
      · refine ok_inc7 55 rfl rfl rfl (by first | omega | (simp [up_if]; omega) | (simp [up_if] at *; omega)) (ok_goto 56 14 rfl rfl rfl ?_)
        have t0 : PMt n w s j = 0 := by
          unfold PMt
          by_cases q : bt s j = true
          · rw [if_pos q, wj]
            have : σ c ((pc s - 1) * 8 + j) = 0 := by
              have := bz.1.mpr q
              omega
            rw [this, Int.zero_mul]
          · rw [if_neg q]
        exact ok_fg [some (vr 16), some (vr c), some (vi s), some (vi n), some (vi (pc s - 1)), some (vl v), none, some (vi (j + 1)), none, none, none] ⟨rfl, rfl, rfl, rfl, rfl, rfl, rfl, trivial⟩ (ih v (j + 1) ⟨by omega, by omega, by omega, by omega, by rw [es, t0]; omega⟩ (by omega))
      · have bb : bt s j = true := bz.1.mp (by omega)
        have x := bitX (s := s) (j := j) ⟨by omega, by omega⟩ ⟨by omega, by omega⟩ bb
        have w1 := hv _ x.1 x.2
        have w2 := PMv_nn hn hw (s := ixor s (ishl 1 j)) ⟨x.1, by omega⟩
        have tj : PMt n w s j = σ c ((pc s - 1) * 8 + j) * σ 18 (ixor s (ishl 1 j)) := by unfold PMt; rw [if_pos bb, wj, w1]
        rw [← w1] at w2
        refine ok_aload_n 28 rfl rfl rfl (ok_getR 29 rfl rfl fl_X0_15 rfl rfl (ok_iload_n 30 rfl rfl rfl (ok_iconst 31 rfl rfl (by decide) (ok_iload 32 rfl rfl rfl (ok_ishl 33 rfl rfl (ok_ixor 34 rfl rfl (ok_lald 35 rfl rfl rfl (by first | omega | (simp [up_if]; omega) | (simp [up_if] at *; omega)) (ok_lst9 36 rfl rfl rfl (ok_lload 37 rfl rfl rfl (ok_ldc2 38 (9223372036854775807) rfl rfl kc_X0_36 (by decide) (ok_lload 39 rfl rfl rfl (ok_lsub 40 rfl rfl (by first | omega | (simp [up_if]; omega) | (simp [up_if] at *; omega)) (ok_iload 41 rfl rfl rfl (ok_i2l 42 rfl rfl (ok_ldiv 43 rfl rfl (by first | omega | (simp [up_if]; omega) | (simp [up_if] at *; omega)) (by first | omega | (simp [up_if]; omega) | (simp [up_if] at *; omega)) (ok_lcmp_le 44 45 79 rfl rfl rfl rfl rfl (fun h71 => ?_) (fun h71 => ?_)))))))))))))))))
        · have m : σ c ((pc s - 1) * 8 + j) * σ 18 (ixor s (ishl 1 j)) ≤ 9223372036854775807 - v := mul_le_div (by omega) h71
          have m0 : 0 ≤ σ c ((pc s - 1) * 8 + j) * σ 18 (ixor s (ishl 1 j)) := Int.mul_nonneg (by omega) w2
          refine ok_lload 48 rfl rfl rfl (ok_iload 49 rfl rfl rfl (ok_i2l 50 rfl rfl (ok_lload 51 rfl rfl rfl (ok_lmul 52 rfl rfl (by first | omega | (simp [up_if]; omega) | (simp [up_if] at *; omega)) (ok_ladd 53 rfl rfl (by first | omega | (simp [up_if]; omega) | (simp [up_if] at *; omega)) (ok_lst5 54 rfl rfl rfl (ok_inc7 55 rfl rfl rfl (by first | omega | (simp [up_if]; omega) | (simp [up_if] at *; omega)) (ok_goto 56 14 rfl rfl rfl ?_))))))))
          exact ok_fg [some (vr 16), some (vr c), some (vi s), some (vi n), some (vi (pc s - 1)), some (vl _), none, some (vi (j + 1)), none, none, none] ⟨rfl, rfl, rfl, rfl, rfl, rfl, rfl, trivial⟩ (ih _ (j + 1) ⟨by omega, by omega, by omega, by omega, by rw [es, tj]⟩ (by omega))
        · refine ok_ldc2 46 (-2) rfl rfl kc_X0_67 (by decide) (ok_lret 47 rfl rfl rfl ?_)
          refine ⟨_, rfl, rfl, Or.inl ⟨rfl, ?_⟩⟩
          have mo := sm_mo (f := PMt n w s) (n := (j + 1).toNat) (m := n.toNat) (by omega) tn
          have hh : 9223372036854775807 - v < σ c ((pc s - 1) * 8 + j) * σ 18 (ixor s (ishl 1 j)) := by
            rcases (by omega : 9223372036854775807 - v < σ c ((pc s - 1) * 8 + j) * σ 18 (ixor s (ishl 1 j)) ∨ σ c ((pc s - 1) * 8 + j) * σ 18 (ixor s (ishl 1 j)) ≤ 9223372036854775807 - v) with q | q
            · exact q
            · rw [Int.mul_comm] at q
              have := Int.le_ediv_of_mul_le (by omega : 0 < σ c ((pc s - 1) * 8 + j)) q
              omega
          rw [es, tj] at mo
          omega
theorem t_Ch_multiplyAll {σ : eS} {c : Nat} {n : Int} (hs : nth shA c = some (1, 64, [])) (hn : 0 ≤ n ∧ n ≤ 8) (hc18 : c ≠ 18) (hc : ∀ k : Int, 0 ≤ k → k < 64 → 0 ≤ σ c k ∧ σ c k ≤ 799999992) : MtL shA M_Ch_multiplyAll [vr 16, vr c, vi n] σ (fun σ' z => fr (fun c _ => c = 18) σ σ' ∧ pmA n (fun i j => σ c (i * 8 + j)) z) := by
  refine Mt.of okM_Ch_multiplyAll (Nat.le_of_ble_eq_true rfl) (fun hk hg => ?_)
  have b2 := bit2 hn
  refine ok_aload_n 0 rfl rfl rfl (ok_getR 1 rfl rfl fl_X0_15 rfl rfl (ok_iconst 2 rfl rfl (by decide) (ok_lconst (w := 1) 3 rfl rfl rfl (by decide) (ok_last 4 rfl rfl rfl (by first | omega | (simp [up_if]; omega) | (simp [up_if] at *; omega)) (ok_iconst 5 rfl rfl (by decide) (ok_ist3 6 rfl rfl rfl ?_))))))
  refine lpO2 (fun (s : Int) (_ : eS) => [some (vr 16), some (vr c), some (vi n), some (vi s)]) (fun _ ρ => ρ) (fun s ρ => 1 ≤ s ∧ s ≤ p2 n ∧ fr (fun c _ => c = 18) σ ρ ∧ ∀ k, 0 ≤ k → k < s → ρ 18 k = PMv n (fun i j => σ c (i * 8 + j)) k ∧ PMv n (fun i j => σ c (i * 8 + j)) k ≤ 9223372036854775807) (fun s _ => (256 - s).toNat) ?_ 1 _ ⟨by omega, by omega, fr_up fr.rf rfl, fun k a b => by rw [show k = 0 by omega, up_same, PMv_0]; decide⟩
  rintro s ρ ⟨s1, s2, f, hv⟩ ih
  have ec : ∀ k, ρ c k = σ c k := fun k => f c k hc18
  have ew : (fun i j => ρ c (i * 8 + j)) = (fun i j => σ c (i * 8 + j)) := by funext i j; exact ec _
  refine ok_iload_n 7 rfl rfl rfl (ok_iconst 8 rfl rfl (by decide) (ok_iload_n 9 rfl rfl rfl (ok_ishl 10 rfl rfl ?_)))
  rw [b2.1]
  refine ok_icmp_ge 11 52 rfl rfl rfl (fun h13 => ?_) (fun h13 => ?_)
  · refine ok_aload_n 32 rfl rfl rfl (ok_getR 33 rfl rfl fl_X0_15 rfl rfl (ok_iconst 34 rfl rfl (by decide) (ok_iload_n 35 rfl rfl rfl (ok_ishl 36 rfl rfl (ok_iconst 37 rfl rfl (by decide) (ok_isub 38 rfl rfl (by first | omega | (simp [up_if]; omega) | (simp [up_if] at *; omega)) ?_))))))
    rw [b2.1]
    refine ok_lald 39 rfl rfl rfl (by first | omega | (simp [up_if]; omega) | (simp [up_if] at *; omega)) (ok_lret 40 rfl rfl rfl ?_)
    exact ⟨_, rfl, f, Or.inr ⟨(hv (p2 n - 1) (by omega) (by omega)).1, fun k a b => (hv k a (by omega)).2⟩⟩
  · refine ok_aload_n 12 rfl rfl rfl (ok_getR 13 rfl rfl fl_X0_15 rfl rfl (ok_iload_n 14 rfl rfl rfl (ok_aload_n 15 rfl rfl rfl (ok_aload_n 16 rfl rfl rfl (ok_iload_n 17 rfl rfl rfl (ok_iload_n 18 rfl rfl rfl (ok_callVL (M' := M_Ch_multiplySet) (as := [_, _, _]) 19 rfl rfl ml_X0_63 (t_Ch_multiplySet hs hn ⟨s1, by omega⟩ (fun k a b => by rw [ec]; exact hc k a b) (fun k a b => by rw [ew]; exact (hv k a b).1)) rfl rfl (Nat.le_of_ble_eq_true rfl) ⟨Nat.le_of_ble_eq_true rfl, Nat.le_of_ble_eq_true rfl⟩ rfl (Nat.le_of_ble_eq_true rfl) (fun σ' z hz => ?_))))))))
    obtain ⟨hs_, hz⟩ := hz
    rw [hs_]; clear hs_ σ'
    rw [ew] at hz
    refine ok_last 20 rfl rfl rfl (by first | omega | (simp [up_if]; omega) | (simp [up_if] at *; omega)) (ok_aload_n 21 rfl rfl rfl (ok_getR 22 rfl rfl fl_X0_15 rfl rfl (ok_iload_n 23 rfl rfl rfl (ok_lald 24 rfl rfl rfl (by first | omega | (simp [up_if]; omega) | (simp [up_if] at *; omega)) (ok_ldc2 25 (-2) rfl rfl kc_X0_67 (by decide) (ok_lcmp_ne 26 27 46 rfl rfl rfl rfl rfl (fun h38 => ?_) (fun h38 => ?_)))))))
    · refine ok_inc3 30 rfl rfl rfl (by first | omega | (simp [up_if]; omega) | (simp [up_if] at *; omega)) (ok_goto 31 9 rfl rfl rfl ?_)
      rw [up_same] at h38
      refine ih (s + 1) _ ⟨by omega, by omega, fr_up f rfl, up_to (fun k a b => ?_) ?_⟩ (by omega)
      · rw [up_nk _ _ _ _ (by omega)]; exact hv k a b
      · rw [up_same]
        rcases hz with q | q
        · exact absurd q.1 h38
        · exact ⟨q.1, by omega⟩
    · refine ok_ldc2 28 (-2) rfl rfl kc_X0_67 (by decide) (ok_lret 29 rfl rfl rfl ?_)
      rw [up_same] at h38
      refine ⟨_, rfl, fr_up f rfl, Or.inl ⟨rfl, s, s1, by omega, ?_⟩⟩
      rcases hz with q | q
      · exact q.2
      · omega
/-- the numbers that the reference's sums are made of -/
def smW (σ : eS) (s l b : Int) : Int → Int → Int := fun i j => if b = 0 then cB σ s i j else if l ≤ cB σ s i j then 1 else 0
theorem t_Mo_isSummed {σ : eS} {s l b : Int} (hB : iB1 σ) (ht : tabB σ s) : MtI shB M_Mo_isSummed [vr 0, vi s, vi l, vi b] σ (fun σ' z => fr rgU σ σ' ∧ ((z = 0 ∧ ∃ T, 1 ≤ T ∧ T < p2 (σ 1 s) ∧ 9223372036854775807 < PMv (σ 1 s) (smW σ s l b) T) ∨ (z = 1 ∧ ∀ T, 0 ≤ T → T < p2 (σ 1 s) → σ' 20 T = PMv (σ 1 s) (smW σ s l b) T ∧ PMv (σ 1 s) (smW σ s l b) T ≤ 9223372036854775807))) := by
  refine Mt.of okM_Mo_isSummed (Nat.le_of_ble_eq_true rfl) (fun hk hg => ?_)
  obtain ⟨u1, u2, u3⟩ := ht
  have tn := hB.1 s u1 u2
  have hn : 0 ≤ σ 1 s ∧ σ 1 s ≤ 8 := ⟨by omega, by omega⟩
  obtain ⟨z1, z2, z3, -⟩ := bit2 (n := σ 1 s) hn
  obtain ⟨w, ew⟩ : ∃ w, w = smW σ s l b := ⟨_, rfl⟩
  have hw0 : ∀ i j, 0 ≤ i → i < σ 1 s → 0 ≤ j → j < σ 1 s → 0 ≤ w i j ∧ w i j ≤ 99999999 := fun i j a1 a2 a3 a4 => by
    have := cB_bd hB ⟨u1, u2⟩ ⟨a1, a2⟩ ⟨a3, a4⟩
    rw [ew]; unfold smW
    split
    · exact this
    · split <;> omega
  have hw : ∀ i j, 0 ≤ i → i < σ 1 s → 0 ≤ j → j < σ 1 s → 0 ≤ w i j := fun i j a1 a2 a3 a4 => (hw0 i j a1 a2 a3 a4).1
  rw [← ew]
  refine ok_aload_n 0 rfl rfl rfl (ok_getR 1 rfl rfl fl_X12_72 rfl rfl (ok_iconst 2 rfl rfl (by decide) (ok_lconst (w := 1) 3 rfl rfl rfl (by decide) (ok_last 4 rfl rfl rfl (by first | omega | (simp [up_if]; omega) | (simp [up_if] at *; omega)) (ok_iconst 5 rfl rfl (by decide) (ok_ist4 6 rfl rfl rfl ?_))))))
  refine lpO2 (fun (T : Int) (_ : eS) => [some (vr 0), some (vi s), some (vi l), some (vi b), some (vi T), none, none, none, none, none, none]) (fun _ ρ => ρ) (fun T ρ => 1 ≤ T ∧ T ≤ p2 (σ 1 s) ∧ fr rgU σ ρ ∧ ∀ k, 0 ≤ k → k < T → ρ 20 k = PMv (σ 1 s) w k ∧ PMv (σ 1 s) w k ≤ 9223372036854775807) (fun T _ => (256 - T).toNat) ?_ 1 _ ⟨by omega, by omega, fr_up fr.rf (by simp [rgU]), fun k a c => by rw [show k = 0 by omega, up_same, PMv_0]; decide⟩
  rintro T ρ ⟨t1, t2, f, hs⟩ ih
  have e1 : ∀ k, ρ 1 k = σ 1 k := fun k => f 1 k (by simp [rgU])
  refine ok_iload 7 rfl rfl rfl (ok_iconst 8 rfl rfl (by decide) (ok_aload_n 9 rfl rfl rfl (ok_getR 10 rfl rfl fl_X12_7 rfl rfl (ok_iload_n 11 rfl rfl rfl (ok_iald 12 rfl rfl rfl (by first | omega | (simp [up_if]; omega) | (simp [up_if] at *; omega)) (ok_ishl 13 rfl rfl ?_))))))
  rw [e1, z1]
  refine ok_icmp_ge 14 178 rfl rfl rfl (fun h20 => ?_) (fun h20 => ?_)
  · refine ok_iconst 102 rfl rfl (by decide) (ok_zret 103 rfl rfl rfl (by first | omega | (simp [up_if]; omega) | (simp [up_if] at *; omega)) ?_)
    exact ⟨_, rfl, f, Or.inr ⟨rfl, fun k a c => hs k a (by omega)⟩⟩
  · refine ok_iload 15 rfl rfl rfl (ok_callSI (M' := M_Mo_bits) (as := [_]) 16 rfl rfl ml_X12_241 (s_Mo_bits ⟨by omega, by omega⟩) ⟨Nat.le_of_ble_eq_true rfl, Nat.le_of_ble_eq_true rfl⟩ rfl (Nat.le_of_ble_eq_true rfl) (fun σ' z hz => ?_))
    rw [hz.1, hz.2]
    clear hz z σ'
    have tl : T < p2 (σ 1 s) := by omega
    have b2 := pc_bd hn (s := T) ⟨by omega, tl⟩
    have b3 := pc1 (s := T) ⟨by omega, by omega⟩ (by omega)
    refine ok_iconst 17 rfl rfl (by decide) (ok_isub 18 rfl rfl (by first | omega | (simp [up_if]; omega) | (simp [up_if] at *; omega)) (ok_ist5 19 rfl rfl rfl (ok_aload_n 20 rfl rfl rfl (ok_getR 21 rfl rfl fl_X12_72 rfl rfl (ok_iload 22 rfl rfl rfl (ok_lconst (w := 0) 23 rfl rfl rfl (by decide) (ok_last 24 rfl rfl rfl (by first | omega | (simp [up_if]; omega) | (simp [up_if] at *; omega)) (ok_iconst 25 rfl rfl (by decide) (ok_ist6 26 rfl rfl rfl ?_)))))))))
    have pe := PMv_eq (w := w) hn (s := T) ⟨t1, by omega⟩
    have tnn : ∀ k : Int, 0 ≤ k → k < ((σ 1 s).toNat : Int) → 0 ≤ PMt (σ 1 s) w T k := fun k a c => PMt_nn hn hw ⟨t1, tl⟩ a (by omega)
    refine lpO2 (fun (j : Int) (_ : eS) => [some (vr 0), some (vi s), some (vi l), some (vi b), some (vi T), some (vi (pc T - 1)), some (vi j), none, none, none, none]) (fun _ ρ => ρ) (fun j ρ => 0 ≤ j ∧ j ≤ σ 1 s ∧ fr rgU σ ρ ∧ (∀ k, 0 ≤ k → k < T → ρ 20 k = PMv (σ 1 s) w k ∧ PMv (σ 1 s) w k ≤ 9223372036854775807) ∧ ρ 20 T = sm (PMt (σ 1 s) w T) j.toNat ∧ ρ 20 T ≤ 9223372036854775807) (fun j _ => (8 - j).toNat) ?_ 0 _ ⟨by omega, by omega, fr_up f (by simp [rgU]), fun k a c => ?_, by rw [up_same]; rfl, by rw [up_same]; decide⟩
    rotate_left
    · rw [up_nk _ _ _ _ (by omega)]; exact hs k a c
    clear hs f e1
    rintro j ρ ⟨j1, j2, f, hs, h20, hmx⟩ ih2
    have e1 : ∀ k, ρ 1 k = σ 1 k := fun k => f 1 k (by simp [rgU])
    have e1s := e1 s
    have hB' : iB1 ρ := iB1_frS hB f (fun c k q => by simp only [rgU]; omega)
    have tk : tbK σ ρ := tbK.of f (fun k => by simp [rgU])
    have es := sm_s (PMt (σ 1 s) w T) j1
    rw [← h20] at es
    have h0 : 0 ≤ ρ 20 T := by rw [h20]; exact sm_nx (fun k a c => tnn k a (by omega))
    have t166 : ∀ (τ : eS) (x y : Option eV), j < σ 1 s → fr rgU σ τ → (∀ k, 0 ≤ k → k < T → τ 20 k = ρ 20 k) → τ 20 T = sm (PMt (σ 1 s) w T) (j + 1).toNat → τ 20 T ≤ 9223372036854775807 → Ok shB M_Mo_isSummed 166 [some (vr 0), some (vi s), some (vi l), some (vi b), some (vi T), some (vi (pc T - 1)), some (vi j), x, none, y, none] [] τ (fun σ' v => ∃ z, v = some (vi z) ∧ fr rgU σ σ' ∧ ((z = 0 ∧ ∃ T, 1 ≤ T ∧ T < p2 (σ 1 s) ∧ 9223372036854775807 < PMv (σ 1 s) w T) ∨ (z = 1 ∧ ∀ T, 0 ≤ T → T < p2 (σ 1 s) → σ' 20 T = PMv (σ 1 s) w T ∧ PMv (σ 1 s) w T ≤ 9223372036854775807))) := by
      intro τ x y jl g hg hg2 hg3
      refine ok_inc6 98 rfl rfl rfl (by first | omega | (simp [up_if]; omega) | (simp [up_if] at *; omega)) (ok_goto 99 43 rfl rfl rfl ?_)
      exact ok_fg [some (vr 0), some (vi s), some (vi l), some (vi b), some (vi T), some (vi (pc T - 1)), some (vi (j + 1)), none, none, none, none] ⟨rfl, rfl, rfl, rfl, rfl, rfl, rfl, trivial⟩ (ih2 (j + 1) τ ⟨by omega, by omega, g, fun k a c => by rw [hg k a c]; exact hs k a c, hg2, hg3⟩ (by omega))
    have t106 : ∀ v : Int, j < σ 1 s → bt T j = true → v = w (pc T - 1) j → Ok shB M_Mo_isSummed 106 [some (vr 0), some (vi s), some (vi l), some (vi b), some (vi T), some (vi (pc T - 1)), some (vi j), none, none, none, none] [vl v] ρ (fun σ' v => ∃ z, v = some (vi z) ∧ fr rgU σ σ' ∧ ((z = 0 ∧ ∃ T, 1 ≤ T ∧ T < p2 (σ 1 s) ∧ 9223372036854775807 < PMv (σ 1 s) w T) ∨ (z = 1 ∧ ∀ T, 0 ≤ T → T < p2 (σ 1 s) → σ' 20 T = PMv (σ 1 s) w T ∧ PMv (σ 1 s) w T ≤ 9223372036854775807))) := by
      intro v jl hbt ev
      have vb := hw0 (pc T - 1) j (by omega) (by omega) j1 jl
      rw [← ev] at vb
      have hx := bitX (s := T) (j := j) (by omega) (by omega) hbt
      have hx1 := (hs _ hx.1 hx.2).1
      have hx2 := PMv_nn hn hw (s := ixor T (ishl 1 j)) ⟨hx.1, by omega⟩
      have hx3 := (hs _ hx.1 hx.2).2
      have tj : PMt (σ 1 s) w T j = v * ρ 20 (ixor T (ishl 1 j)) := by unfold PMt; rw [if_pos hbt, ← ev, hx1]
      rw [← hx1] at hx2 hx3
      rw [tj] at es
      have t151 : v * ρ 20 (ixor T (ishl 1 j)) ≤ 9223372036854775807 - ρ 20 T → Ok shB M_Mo_isSummed 151 [some (vr 0), some (vi s), some (vi l), some (vi b), some (vi T), some (vi (pc T - 1)), some (vi j), some (vl v), none, some (vl (ρ 20 (ixor T (ishl 1 j)))), none] [] ρ (fun σ' v => ∃ z, v = some (vi z) ∧ fr rgU σ σ' ∧ ((z = 0 ∧ ∃ T, 1 ≤ T ∧ T < p2 (σ 1 s) ∧ 9223372036854775807 < PMv (σ 1 s) w T) ∨ (z = 1 ∧ ∀ T, 0 ≤ T → T < p2 (σ 1 s) → σ' 20 T = PMv (σ 1 s) w T ∧ PMv (σ 1 s) w T ≤ 9223372036854775807))) := by
        intro hm
        have hm0 : 0 ≤ v * ρ 20 (ixor T (ishl 1 j)) := Int.mul_nonneg vb.1 hx2
        refine ok_aload_n 88 rfl rfl rfl (ok_getR 89 rfl rfl fl_X12_72 rfl rfl (ok_iload 90 rfl rfl rfl (ok_dup2 91 rfl rfl ⟨rfl, rfl⟩ (ok_lald 92 rfl rfl rfl (by first | omega | (simp [up_if]; omega) | (simp [up_if] at *; omega)) (ok_lload 93 rfl rfl rfl (ok_lload 94 rfl rfl rfl (ok_lmul 95 rfl rfl (by first | omega | (simp [up_if]; omega) | (simp [up_if] at *; omega)) (ok_ladd 96 rfl rfl (by first | omega | (simp [up_if]; omega) | (simp [up_if] at *; omega)) (ok_last 97 rfl rfl rfl (by first | omega | (simp [up_if]; omega) | (simp [up_if] at *; omega)) ?_)))))))))
        exact t166 _ _ _ jl (fr_up f (by simp [rgU])) (fun k a c => up_nk _ _ _ _ (by omega)) (by rw [up_same, es]) (by rw [up_same]; omega)
      refine ok_lst7 61 rfl rfl rfl (ok_aload_n 62 rfl rfl rfl (ok_getR 63 rfl rfl fl_X12_72 rfl rfl (ok_iload 64 rfl rfl rfl (ok_iconst 65 rfl rfl (by decide) (ok_iload 66 rfl rfl rfl (ok_ishl 67 rfl rfl (ok_ixor 68 rfl rfl (ok_lald 69 rfl rfl rfl (by first | omega | (simp [up_if]; omega) | (simp [up_if] at *; omega)) (ok_lst9 70 rfl rfl rfl (ok_lload 71 rfl rfl rfl (ok_lconst (w := 0) 72 rfl rfl rfl (by decide) (ok_lcmp_le 73 74 151 rfl rfl rfl rfl rfl (fun h125 => ?_) (fun h125 => ?_)))))))))))))
      · refine t151 ?_
        first
          | (rw [show v = 0 by omega, Int.zero_mul]; omega)
          | exact mul_le_div (by omega) (by omega)
      · refine ok_lload 75 rfl rfl rfl (ok_ldc2 76 (9223372036854775807) rfl rfl kc_X12_239 (by decide) (ok_aload_n 77 rfl rfl rfl (ok_getR 78 rfl rfl fl_X12_72 rfl rfl (ok_iload 79 rfl rfl rfl (ok_lald 80 rfl rfl rfl (by first | omega | (simp [up_if]; omega) | (simp [up_if] at *; omega)) (ok_lsub 81 rfl rfl (by first | omega | (simp [up_if]; omega) | (simp [up_if] at *; omega)) (ok_lload 82 rfl rfl rfl (ok_ldiv 83 rfl rfl (by first | omega | (simp [up_if]; omega) | (simp [up_if] at *; omega)) (by first | omega | (simp [up_if]; omega) | (simp [up_if] at *; omega)) (ok_lcmp_le 84 85 151 rfl rfl rfl rfl rfl (fun h145 => ?_) (fun h145 => ?_))))))))))
        · refine t151 ?_
          first
            | (rw [show v = 0 by omega, Int.zero_mul]; omega)
            | exact mul_le_div (by omega) (by omega)
        · refine ok_iconst 86 rfl rfl (by decide) (ok_zret 87 rfl rfl rfl (by first | omega | (simp [up_if]; omega) | (simp [up_if] at *; omega)) ?_)
          refine ⟨_, rfl, f, Or.inl ⟨rfl, T, t1, tl, ?_⟩⟩
          have mo := sm_mo (f := PMt (σ 1 s) w T) (n := (j + 1).toNat) (m := (σ 1 s).toNat) (by omega) tnn
          have hh : 9223372036854775807 - ρ 20 T < v * ρ 20 (ixor T (ishl 1 j)) := by
            rcases (by omega : 9223372036854775807 - ρ 20 T < v * ρ 20 (ixor T (ishl 1 j)) ∨ v * ρ 20 (ixor T (ishl 1 j)) ≤ 9223372036854775807 - ρ 20 T) with q | q
            · exact q
            · rw [Int.mul_comm] at q
              have := Int.le_ediv_of_mul_le (by omega : 0 < v) q
              omega
          rw [es] at mo
          rw [pe]
          omega
    refine ok_iload 27 rfl rfl rfl (ok_aload_n 28 rfl rfl rfl (ok_getR 29 rfl rfl fl_X12_7 rfl rfl (ok_iload_n 30 rfl rfl rfl (ok_iald 31 rfl rfl rfl (by first | omega | (simp [up_if]; omega) | (simp [up_if] at *; omega)) (ok_icmp_ge 32 172 rfl rfl rfl (fun h51 => ?_) (fun h51 => ?_))))))
    · refine ok_inc4 100 rfl rfl rfl (by first | omega | (simp [up_if]; omega) | (simp [up_if] at *; omega)) (ok_goto 101 10 rfl rfl rfl ?_)
      exact ok_fg [some (vr 0), some (vi s), some (vi l), some (vi b), some (vi (T + 1)), none, none, none, none, none, none] ⟨rfl, rfl, rfl, rfl, rfl, trivial⟩ (ih (T + 1) ρ ⟨by omega, by omega, f, up_to hs ⟨by rw [h20, show j = σ 1 s by omega, pe], by rw [pe, show (σ 1 s).toNat = j.toNat by omega, ← h20]; exact hmx⟩⟩ (by omega))
    · refine ok_iload 33 rfl rfl rfl (ok_iload 34 rfl rfl rfl (ok_ishr 35 rfl rfl (ok_iconst 36 rfl rfl (by decide) (ok_iand 37 rfl rfl ?_))))
      have hbg := b_nz (s := T) (j := j) ⟨by omega, by omega⟩ ⟨by omega, by omega⟩
      refine ok_if_ne 38 67 rfl rfl rfl (fun h61 => ?_) (fun h61 => ?_)
      · have hbt : bt T j = true := hbg.1.mp h61
        have jl : j < σ 1 s := by have := e1 s; omega
        refine ok_iload_n 40 rfl rfl rfl (ok_if_eq 41 96 rfl rfl rfl (fun h68 => ?_) (fun h68 => ?_))
        · refine ok_aload_n 55 rfl rfl rfl (ok_iload_n 56 rfl rfl rfl (ok_iload 57 rfl rfl rfl (ok_iload 58 rfl rfl rfl (ok_callVI (M' := M_Mo_at) (as := [_, _, _]) 59 rfl rfl ml_X12_107 (s_Mo_at hB' ⟨u1, u2⟩ ⟨by omega, by rw [e1]; omega⟩ ⟨by omega, by rw [e1]; omega⟩) rfl rfl (Nat.le_of_ble_eq_true rfl) ⟨Nat.le_of_ble_eq_true rfl, Nat.le_of_ble_eq_true rfl⟩ rfl (Nat.le_of_ble_eq_true rfl) (fun σ' z hz => ?_)))))
          rw [hz.1, hz.2, cB_cg tk]; clear hz z σ'
          refine ok_i2l 60 rfl rfl ?_
          refine t106 _ jl hbt ?_
          rw [ew]; unfold smW
          first
            | rw [if_pos (by omega)]
            | (rw [if_neg (by omega), if_pos (by omega), hz]; rfl)
            | (rw [if_neg (by omega), if_neg (by omega), hz]; rfl)
        · refine ok_aload_n 42 rfl rfl rfl (ok_iload_n 43 rfl rfl rfl (ok_iload 44 rfl rfl rfl (ok_iload 45 rfl rfl rfl (ok_callVI (M' := M_Mo_at) (as := [_, _, _]) 46 rfl rfl ml_X12_107 (s_Mo_at hB' ⟨u1, u2⟩ ⟨by omega, by rw [e1]; omega⟩ ⟨by omega, by rw [e1]; omega⟩) rfl rfl (Nat.le_of_ble_eq_true rfl) ⟨Nat.le_of_ble_eq_true rfl, Nat.le_of_ble_eq_true rfl⟩ rfl (Nat.le_of_ble_eq_true rfl) (fun σ' z hz => ?_)))))
          rw [hz.1, hz.2, cB_cg tk]; clear hz z σ'
          refine ok_iload_n 47 rfl rfl rfl (ok_icmp_lt 48 88 rfl rfl rfl (fun h81 => ?_) (fun h81 => ?_))
          · refine ok_iconst 51 rfl rfl (by decide) (ok_callSI (M' := M_Mo_one) (as := [_]) 52 rfl rfl ml_X12_192 (s_Mo_one) ⟨Nat.le_of_ble_eq_true rfl, Nat.le_of_ble_eq_true rfl⟩ rfl (Nat.le_of_ble_eq_true rfl) (fun σ' z hz => ?_))
            obtain ⟨hs_, hz⟩ := hz
            rw [hs_]; clear hs_ σ'
            refine ok_i2l 53 rfl rfl (ok_goto 54 106 rfl rfl rfl ?_)
            refine t106 _ jl hbt ?_
            rw [ew]; unfold smW
            first
              | rw [if_pos (by omega)]
              | (rw [if_neg (by omega), if_pos (by omega), hz]; rfl)
              | (rw [if_neg (by omega), if_neg (by omega), hz]; rfl)
          · refine ok_iconst 49 rfl rfl (by decide) (ok_goto 50 89 rfl rfl rfl (ok_callSI (M' := M_Mo_one) (as := [_]) 52 rfl rfl ml_X12_192 (s_Mo_one) ⟨Nat.le_of_ble_eq_true rfl, Nat.le_of_ble_eq_true rfl⟩ rfl (Nat.le_of_ble_eq_true rfl) (fun σ' z hz => ?_)))
            obtain ⟨hs_, hz⟩ := hz
            rw [hs_]; clear hs_ σ'
            refine ok_i2l 53 rfl rfl (ok_goto 54 106 rfl rfl rfl ?_)
            refine t106 _ jl hbt ?_
            rw [ew]; unfold smW
            first
              | rw [if_pos (by omega)]
              | (rw [if_neg (by omega), if_pos (by omega), hz]; rfl)
              | (rw [if_neg (by omega), if_neg (by omega), hz]; rfl)
      · refine ok_goto 39 166 rfl rfl rfl ?_
        have t0 : PMt (σ 1 s) w T j = 0 := by unfold PMt; rw [hbg.2.mp h61]; rfl
        exact t166 ρ none none (by have := e1 s; omega) f (fun k a c => rfl) (by rw [es, t0]; omega) hmx
end
