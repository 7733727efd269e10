theorem lcS_big {a b l : Int} (ha : 1 ≤ a) (hb : 1 ≤ b) (h : l < a ∨ l < b) : lcS a b l = -1 := by
  unfold lcS
  rw [if_neg (by omega), if_pos]
  rw [lc_eq ha hb]
  have p := Int.lcm_pos (m := a) (n := b) (by omega) (by omega)
  have d1 := Int.le_of_dvd (by omega) (Int.dvd_lcm_left a b)
  have d2 := Int.le_of_dvd (by omega) (Int.dvd_lcm_right a b)
  omega
theorem lcS_val {a b l : Int} (ha : 1 ≤ a) (hb : 1 ≤ b) : lcS a b l = if l < a / (Int.gcd a b : Int) * b then -1 else a / (Int.gcd a b : Int) * b := by
  unfold lcS
  rw [if_neg (by omega)]
def mxB (σ : eS) (s o x d u e : Int) : Int → Int → Int := fun i j => x * cB σ s i j * d + u * cB σ o i j * e
def MXB (σ : eS) (s o t x y u v : Int) (σ' : eS) (z : Int) : Prop :=
  (z = 0 ∧ tbK σ σ' ∧ lcS (y * σ 2 s) (v * σ 2 o) 1000000000 = -1) ∨
  (1 ≤ lcS (y * σ 2 s) (v * σ 2 o) 1000000000 ∧ ((z = 0 ∧ tbK σ σ' ∧ ∃ i j, 0 ≤ i ∧ i < σ 1 s ∧ 0 ≤ j ∧ j < σ 1 s ∧ 1000000000000000 < mxB σ s o x (lcS (y * σ 2 s) (v * σ 2 o) 1000000000 / (y * σ 2 s)) u (lcS (y * σ 2 s) (v * σ 2 o) 1000000000 / (v * σ 2 o)) i j) ∨
   ((∀ i j, 0 ≤ i → i < σ 1 s → 0 ≤ j → j < σ 1 s → mxB σ s o x (lcS (y * σ 2 s) (v * σ 2 o) 1000000000 / (y * σ 2 s)) u (lcS (y * σ 2 s) (v * σ 2 o) 1000000000 / (v * σ 2 o)) i j ≤ 1000000000000000) ∧ MB σ t (σ 1 s) (lcS (y * σ 2 s) (v * σ 2 o) 1000000000) (mxB σ s o x (lcS (y * σ 2 s) (v * σ 2 o) 1000000000 / (y * σ 2 s)) u (lcS (y * σ 2 s) (v * σ 2 o) 1000000000 / (v * σ 2 o))) σ' z)))
def XmB (σ : eS) (s x y o u v t : Int) (σ' : eS) (z : Int) : Prop := (z = 0 ∧ tbK σ σ' ∧ ¬ (shr x y ∧ shr u v ∧ likeB σ s o t)) ∨ ((shr x y ∧ shr u v ∧ likeB σ s o t) ∧ MXB σ s o t x y u v σ' z)
theorem t_Mo_mix {σ : eS} {s x y o u v t : Int} (hB : iB1 σ) : MtI shB M_Mo_mix [vr 0, vi s, vi x, vi y, vi o, vi u, vi v, vi t] σ (fun σ' z => QM σ σ' z ∧ XmB σ s x y o u v t σ' z) := by
  refine Mt.of okM_Mo_mix (Nat.le_of_ble_eq_true rfl) (fun hk hg => ?_)
  have no : ∀ R : Prop, ¬ R → (¬ R → ¬ (shr x y ∧ shr u v ∧ likeB σ s o t)) → ∃ z : Int, some (vi 0) = some (vi z) ∧ QM σ σ z ∧ XmB σ s x y o u v t σ z := fun R h1 h2 => ⟨0, rfl, ⟨fr.rf, hB, Or.inl rfl⟩, Or.inl ⟨rfl, tbK_rf _, h2 h1⟩⟩
  refine ok_aload_n 0 rfl rfl rfl (ok_iload_n 1 rfl rfl rfl (ok_callVI (M' := M_Mo_isTable) (as := [_]) 2 rfl rfl ml_X12_111 (s_Mo_isTable_r) rfl rfl (Nat.le_of_ble_eq_true rfl) ⟨Nat.le_of_ble_eq_true rfl, Nat.le_of_ble_eq_true rfl⟩ rfl (Nat.le_of_ble_eq_true rfl) (fun σ' z1 a1 => ?_)))
  obtain ⟨hs_, a1⟩ := a1
  rw [hs_]; clear hs_ σ'
  refine ok_if_eq 3 59 rfl rfl rfl (fun h5 => ?_) (fun h5 => ?_)
  · refine ok_iconst 28 rfl rfl (by decide) (ok_zret 29 rfl rfl rfl (by first | omega | (simp [up_if]; omega) | (simp [up_if] at *; omega)) ?_)
    exact no _ (no1 a1 h5) (fun w q => w q.2.2.1)
  · refine ok_aload_n 4 rfl rfl rfl (ok_iload 5 rfl rfl rfl (ok_callVI (M' := M_Mo_isTable) (as := [_]) 6 rfl rfl ml_X12_111 (s_Mo_isTable_r) rfl rfl (Nat.le_of_ble_eq_true rfl) ⟨Nat.le_of_ble_eq_true rfl, Nat.le_of_ble_eq_true rfl⟩ rfl (Nat.le_of_ble_eq_true rfl) (fun σ' z2 a2 => ?_)))
    obtain ⟨hs_, a2⟩ := a2
    rw [hs_]; clear hs_ σ'
    refine ok_if_eq 7 59 rfl rfl rfl (fun h14 => ?_) (fun h14 => ?_)
    · refine ok_iconst 28 rfl rfl (by decide) (ok_zret 29 rfl rfl rfl (by first | omega | (simp [up_if]; omega) | (simp [up_if] at *; omega)) ?_)
      exact no _ (no1 a2 h14) (fun w q => w q.2.2.2.1)
    · refine ok_iload 8 rfl rfl rfl (ok_callSI (M' := M_Mo_isSlot) (as := [_]) 9 rfl rfl ml_X12_103 (s_Mo_isSlot_r) ⟨Nat.le_of_ble_eq_true rfl, Nat.le_of_ble_eq_true rfl⟩ rfl (Nat.le_of_ble_eq_true rfl) (fun σ' z3 a3 => ?_))
      obtain ⟨hs_, a3⟩ := a3
      rw [hs_]; clear hs_ σ'
      refine ok_if_eq 10 59 rfl rfl rfl (fun h22 => ?_) (fun h22 => ?_)
      · refine ok_iconst 28 rfl rfl (by decide) (ok_zret 29 rfl rfl rfl (by first | omega | (simp [up_if]; omega) | (simp [up_if] at *; omega)) ?_)
        exact no _ (no1 a3 h22) (fun w q => w q.2.2.2.2.1)
      · have hs : tabB σ s := yes1 a1 h5
        have ho : tabB σ o := yes1 a2 h14
        have ht := yes1 a3 h22
        obtain ⟨s1, s2, s3⟩ := id hs
        obtain ⟨o1, o2, o3⟩ := id ho
        obtain ⟨g1, g2, g3⟩ := hB.1 s s1 s2
        obtain ⟨k1, k2, k3⟩ := hB.1 o o1 o2
        refine ok_aload_n 11 rfl rfl rfl (ok_getR 12 rfl rfl fl_X12_7 rfl rfl (ok_iload_n 13 rfl rfl rfl (ok_iald 14 rfl rfl rfl (by first | omega | (simp [up_if]; omega) | (simp [up_if] at *; omega)) (ok_aload_n 15 rfl rfl rfl (ok_getR 16 rfl rfl fl_X12_7 rfl rfl (ok_iload 17 rfl rfl rfl (ok_iald 18 rfl rfl rfl (by first | omega | (simp [up_if]; omega) | (simp [up_if] at *; omega)) (ok_icmp_ne 19 59 rfl rfl rfl (fun h38 => ?_) (fun h38 => ?_)))))))))
        · refine ok_iconst 28 rfl rfl (by decide) (ok_zret 29 rfl rfl rfl (by first | omega | (simp [up_if]; omega) | (simp [up_if] at *; omega)) ?_)
          exact no _ h38 (fun w q => w q.2.2.2.2.2)
        · refine ok_iload_n 20 rfl rfl rfl (ok_iload_n 21 rfl rfl rfl (ok_callSI (M' := M_Mo_isPart) (as := [_, _]) 22 rfl rfl ml_X12_221 (s_Mo_isPart) ⟨Nat.le_of_ble_eq_true rfl, Nat.le_of_ble_eq_true rfl⟩ rfl (Nat.le_of_ble_eq_true rfl) (fun σ' z4 a4 => ?_)))
          obtain ⟨hs_, a4⟩ := a4
          rw [hs_]; clear hs_ σ'
          refine ok_if_eq 23 59 rfl rfl rfl (fun h46 => ?_) (fun h46 => ?_)
          · refine ok_iconst 28 rfl rfl (by decide) (ok_zret 29 rfl rfl rfl (by first | omega | (simp [up_if]; omega) | (simp [up_if] at *; omega)) ?_)
            exact no _ (no1 a4 h46) (fun w q => w q.1)
          · refine ok_iload 24 rfl rfl rfl (ok_iload 25 rfl rfl rfl (ok_callSI (M' := M_Mo_isPart) (as := [_, _]) 26 rfl rfl ml_X12_221 (s_Mo_isPart) ⟨Nat.le_of_ble_eq_true rfl, Nat.le_of_ble_eq_true rfl⟩ rfl (Nat.le_of_ble_eq_true rfl) (fun σ' z5 a5 => ?_)))
            obtain ⟨hs_, a5⟩ := a5
            rw [hs_]; clear hs_ σ'
            refine ok_if_ne 27 61 rfl rfl rfl (fun h56 => ?_) (fun h56 => ?_)
            · have p1 := yes1 a4 h46
              have p2 := yes1 a5 h56
              have hl : shr x y ∧ shr u v ∧ likeB σ s o t := ⟨p1, p2, hs, ho, ht, by omega⟩
              obtain ⟨n, en⟩ : ∃ x, x = σ 1 s := ⟨_, rfl⟩
              obtain ⟨x1, x2⟩ := sq8 (n := n) ⟨by omega, by omega⟩
              obtain ⟨A, eA⟩ : ∃ w, w = y * σ 2 s := ⟨_, rfl⟩
              obtain ⟨B, eB⟩ : ∃ w, w = v * σ 2 o := ⟨_, rfl⟩
              have bA := mul_bd (a := y) (b := σ 2 s) (A := 9999) (B := 999999) ⟨by omega, by omega⟩ ⟨by omega, by omega⟩
              have bA' := Int.mul_pos (by omega : 0 < y) (by omega : 0 < σ 2 s)
              have bB := mul_bd (a := v) (b := σ 2 o) (A := 9999) (B := 999999) ⟨by omega, by omega⟩ ⟨by omega, by omega⟩
              have bB' := Int.mul_pos (by omega : 0 < v) (by omega : 0 < σ 2 o)
              rw [← eA] at bA bA'
              rw [← eB] at bB bB'
              have no2 : lcS A B 1000000000 = -1 → ∃ z : Int, some (vi 0) = some (vi z) ∧ QM σ σ z ∧ XmB σ s x y o u v t σ z := fun h1 => ⟨0, rfl, ⟨fr.rf, hB, Or.inl rfl⟩, Or.inr ⟨hl, Or.inl ⟨rfl, tbK_rf _, by rw [← eA, ← eB]; exact h1⟩⟩⟩
              refine ok_iload_n 30 rfl rfl rfl (ok_i2l 31 rfl rfl (ok_aload_n 32 rfl rfl rfl (ok_getR 33 rfl rfl fl_X12_13 rfl rfl (ok_iload_n 34 rfl rfl rfl (ok_iald 35 rfl rfl rfl (by first | omega | (simp [up_if]; omega) | (simp [up_if] at *; omega)) (ok_i2l 36 rfl rfl (ok_lmul 37 rfl rfl (by rw [← eA]; omega) (ok_lst8 38 rfl rfl rfl (ok_iload 39 rfl rfl rfl (ok_i2l 40 rfl rfl (ok_aload_n 41 rfl rfl rfl (ok_getR 42 rfl rfl fl_X12_13 rfl rfl (ok_iload 43 rfl rfl rfl (ok_iald 44 rfl rfl rfl (by first | omega | (simp [up_if]; omega) | (simp [up_if] at *; omega)) (ok_i2l 45 rfl rfl (ok_lmul 46 rfl rfl (by rw [← eB]; omega) (ok_lst10 47 rfl rfl rfl ?_)))))))))))))))))
              rw [← eA, ← eB]
              refine ok_lload 48 rfl rfl rfl (ok_ldc2 49 (1000000000) rfl rfl kc_X12_224 (by decide) (ok_lcmp_gt 50 51 105 rfl rfl rfl rfl rfl (fun h92 => ?_) (fun h92 => ?_)))
              · refine ok_iconst 56 rfl rfl (by decide) (ok_zret 57 rfl rfl rfl (by first | omega | (simp [up_if]; omega) | (simp [up_if] at *; omega)) ?_)
                exact no2 (lcS_big (by omega) (by omega) (by omega))
              · refine ok_lload 52 rfl rfl rfl (ok_ldc2 53 (1000000000) rfl rfl kc_X12_224 (by decide) (ok_lcmp_le 54 55 107 rfl rfl rfl rfl rfl (fun h101 => ?_) (fun h101 => ?_)))
                · obtain ⟨c1, c2⟩ := gcd_pos (a := A) (b := B) (by omega)
                  have hv := lcS_val (a := A) (b := B) (l := 1000000000) (by omega) (by omega)
                  obtain ⟨c3, c4⟩ := gcd_div (by omega : 1 ≤ A) c1 c2
                  obtain ⟨E, eE⟩ : ∃ w, w = A / (Int.gcd A B : Int) := ⟨_, rfl⟩
                  rw [← eE] at c3 c4 hv
                  obtain ⟨F, eF⟩ : ∃ w, w = E * B := ⟨_, rfl⟩
                  have c5 := mul_bd (a := E) (b := B) (A := 1000000000) (B := 1000000000) ⟨by omega, by omega⟩ ⟨by omega, by omega⟩
                  have c6 := Int.mul_pos (by omega : 0 < E) (by omega : 0 < B)
                  rw [← eF] at c5 c6 hv
                  refine ok_lload 58 rfl rfl rfl (ok_lload 59 rfl rfl rfl (ok_lload 60 rfl rfl rfl (ok_callSL (M' := M_Mo_common) (as := [_, _]) 61 rfl rfl ml_X12_89 (s_Mo_common (by omega) (by omega)) ⟨Nat.le_of_ble_eq_true rfl, Nat.le_of_ble_eq_true rfl⟩ rfl (Nat.le_of_ble_eq_true rfl) (fun σ' z hz => ?_))))
                  rw [hz.1, hz.2]; clear hz z σ'
                  refine ok_ldiv 62 rfl rfl (by omega) (by omega) (ok_lload 63 rfl rfl rfl (ok_lmul 64 rfl rfl (by rw [← eE, ← eF]; omega) (ok_lst12 65 rfl rfl rfl ?_)))
                  rw [← eE, ← eF]
                  refine ok_lload 66 rfl rfl rfl (ok_ldc2 67 (1000000000) rfl rfl kc_X12_224 (by decide) (ok_lcmp_le 68 69 133 rfl rfl rfl rfl rfl (fun h127 => ?_) (fun h127 => ?_)))
                  · refine ok_aload_n 72 rfl rfl rfl (ok_getR 73 rfl rfl fl_X12_7 rfl rfl (ok_iload_n 74 rfl rfl rfl (ok_iald 75 rfl rfl rfl (by first | omega | (simp [up_if]; omega) | (simp [up_if] at *; omega)) (ok_ist14 76 rfl rfl rfl (ok_iconst 77 rfl rfl (by decide) (ok_ist15 78 rfl rfl rfl ?_))))))
                    rw [← en]
                    rw [if_neg (by omega)] at hv
                    obtain ⟨d1, d2⟩ := div_bd (u := F) (g := A) (B := 1000000000) ⟨by omega, by omega⟩ (by omega)
                    obtain ⟨d3, d4⟩ := div_bd (u := F) (g := B) (B := 1000000000) ⟨by omega, by omega⟩ (by omega)
                    obtain ⟨d5, d6⟩ := mul_bd (a := x) (b := F / A) (A := 9999) (B := 1000000000) ⟨by omega, by omega⟩ ⟨by omega, by omega⟩
                    obtain ⟨d7, d8⟩ := mul_bd (a := u) (b := F / B) (A := 9999) (B := 1000000000) ⟨by omega, by omega⟩ ⟨by omega, by omega⟩
                    obtain ⟨G, eG⟩ : ∃ G : Int → Int, G = fun q => x * σ 3 (64 * s + q) * (F / A) + u * σ 3 (64 * o + q) * (F / B) := ⟨_, rfl⟩
                    have hG : ∀ q, G q = x * σ 3 (64 * s + q) * (F / A) + u * σ 3 (64 * o + q) * (F / B) := fun q => by rw [eG]
                    have hGm : ∀ i j, G (n * i + j) = mxB σ s o x (lcS (y * σ 2 s) (v * σ 2 o) 1000000000 / (y * σ 2 s)) u (lcS (y * σ 2 s) (v * σ 2 o) 1000000000 / (v * σ 2 o)) i j := fun i j => by
                      have on : σ 1 o = n := by have := hl.2.2.2.2.2; omega
                      unfold mxB cB
                      rw [hG, ← eA, ← eB, hv, on, ← en, Int.add_assoc, Int.add_assoc (64 * o)]
                    clear eG
                    have fin : ∀ τ : eS, fr (fun c k => (c = 0 ∧ k = 4) ∨ c = 4) σ τ → iB1 τ → ∀ k, 0 ≤ k → k < n * n → 1000000000000000 < G k → ∃ z : Int, some (vi 0) = some (vi z) ∧ QM σ τ z ∧ XmB σ s x y o u v t τ z := fun τ f b1 k k0 kn hk => by
                      obtain ⟨i, j, a1, a2, a3, a4, a5⟩ := dm_n (by omega) k0 kn
                      refine ⟨0, rfl, ⟨f.mono (fun c k q => by simp only [rgM]; omega), b1, Or.inl rfl⟩, Or.inr ⟨hl, Or.inr ⟨by rw [← eA, ← eB, hv]; omega, Or.inl ⟨rfl, tbK_M f, i, j, a1, by omega, a3, by omega, ?_⟩⟩⟩⟩
                      rw [← hGm, ← a5]; exact hk
                    refine lpO2 (fun (k : Int) (_ : eS) => [some (vr 0), some (vi s), some (vi x), some (vi y), some (vi o), some (vi u), some (vi v), some (vi t), some (vl A), none, some (vl B), none, some (vl F), none, some (vi n), some (vi k), none, none, none, none]) (fun _ τ => τ) (fun k τ => 0 ≤ k ∧ k ≤ n * n ∧ fr (fun c k => (c = 0 ∧ k = 4) ∨ c = 4) σ τ ∧ (∀ j, 0 ≤ j → j < 64 → 0 ≤ τ 4 j) ∧ ∀ q, 0 ≤ q → q < k → τ 4 q = G q ∧ G q ≤ 1000000000000000) (fun k _ => (n * n - k).toNat) ?_ 0 σ ⟨by omega, by omega, fr.rf, hB.2.2, fun q a b => by omega⟩
                    rintro k τ ⟨i1, i2, i3, i4, i5⟩ ih
                    obtain ⟨b1, b2⟩ := iB1_M hB i3 i4
                    have fQ : fr rgM σ τ := i3.mono (fun c k q => by simp only [rgM]; omega)
                    refine ok_iload 79 rfl rfl rfl (ok_iload 80 rfl rfl rfl (ok_iload 81 rfl rfl rfl (ok_imul 82 rfl rfl (by first | omega | (simp [up_if]; omega) | (simp [up_if] at *; omega)) (ok_icmp_ge 83 254 rfl rfl rfl (fun h151 => ?_) (fun h151 => ?_)))))
                    · refine ok_aload_n 143 rfl rfl rfl (ok_lload 144 rfl rfl rfl (ok_putL 145 rfl rfl fl_X12_85 rfl rfl rfl rfl (ok_aload_n 146 rfl rfl rfl (ok_iload 147 rfl rfl rfl (ok_iload 148 rfl rfl rfl (ok_callVI (M' := M_Mo_takes) (as := [_, _]) 149 rfl rfl ml_X12_179 (s_Mo_takes ht ⟨by omega, by omega⟩ (by rw [up_same]; omega) (fun k a b => by rw [up_ne _ _ _ _ (by decide)]; exact i4 k a (by omega))) rfl rfl (Nat.le_of_ble_eq_true rfl) ⟨Nat.le_of_ble_eq_true rfl, Nat.le_of_ble_eq_true rfl⟩ rfl (Nat.le_of_ble_eq_true rfl) (fun σ' z hz => ?_)))))))
                      have hq := Qtk.M (b1.fr (fun c k q => by rw [up_ne _ _ _ _ (by omega)])) ht ⟨by omega, by omega⟩ (by rw [up_same]; omega) (fun k a b => by rw [up_ne _ _ _ _ (by decide)]; exact i4 k a (by omega)) hz
                      have hm := Qtk.B ⟨by omega, by omega⟩ (by rw [up_same]; omega) hz
                      rw [up_same] at hm
                      refine ok_zret 150 rfl rfl rfl (by have := hq.2.2; omega) ?_
                      refine ⟨_, rfl, hq.tr (fr_up fQ (by simp [rgM])), Or.inr ⟨hl, Or.inr ⟨by rw [← eA, ← eB, hv]; omega, Or.inr ⟨fun i j a1 a2 a3 a4 => ?_, ?_⟩⟩⟩⟩
                      · obtain ⟨y1, y2, y3, y4⟩ := ix8 (n := n) (i := i) (j := j) ⟨by omega, by omega⟩ ⟨by omega, by omega⟩ ⟨by omega, by omega⟩
                        rw [← hGm]
                        exact (i5 _ (by omega) (by omega)).2
                      · have hL : lcS (y * σ 2 s) (v * σ 2 o) 1000000000 = F := by rw [← eA, ← eB, hv]
                        have hm2 := MB_cg (f' := mxB σ s o x (lcS (y * σ 2 s) (v * σ 2 o) 1000000000 / (y * σ 2 s)) u (lcS (y * σ 2 s) (v * σ 2 o) 1000000000 / (v * σ 2 o))) hm (tbK_M (fr_up i3 (by omega))) (fun i j a1 a2 a3 a4 => by
                          obtain ⟨y1, y2, y3, y4⟩ := ix8 (n := n) (i := i) (j := j) ⟨by omega, by omega⟩ ⟨by omega, by omega⟩ ⟨by omega, by omega⟩
                          show up τ 0 4 _ 4 _ = _
                          rw [up_ne _ _ _ _ (by decide), ← hGm]
                          exact (i5 _ (by omega) (by omega)).1)
                        rw [← hL, en] at hm2
                        exact hm2
                    · have cs := b1.2.1 (64 * s + k) (by omega) (by omega)
                      have co := b1.2.1 (64 * o + k) (by omega) (by omega)
                      have hGk := hG k
                      rw [← i3 3 (64 * s + k) (by omega), ← i3 3 (64 * o + k) (by omega)] at hGk
                      have w1 : x * (F / A) * τ 3 (64 * s + k) = x * τ 3 (64 * s + k) * (F / A) := Int.mul_right_comm _ _ _
                      have w2 : u * (F / B) * τ 3 (64 * o + k) = u * τ 3 (64 * o + k) * (F / B) := Int.mul_right_comm _ _ _
                      have w3 := Int.mul_nonneg d5 cs.1
                      have w4 := Int.mul_nonneg d7 co.1
                      refine ok_iload_n 84 rfl rfl rfl (ok_i2l 85 rfl rfl (ok_lload 86 rfl rfl rfl (ok_lload 87 rfl rfl rfl (ok_ldiv 88 rfl rfl (by omega) (by omega) (ok_lmul 89 rfl rfl (by first | omega | (simp [up_if]; omega) | (simp [up_if] at *; omega)) (ok_aload_n 90 rfl rfl rfl (ok_getR 91 rfl rfl fl_X12_16 rfl rfl (ok_bipush 92 rfl rfl (by decide) (by decide) (ok_iload_n 93 rfl rfl rfl (ok_imul 94 rfl rfl (by first | omega | (simp [up_if]; omega) | (simp [up_if] at *; omega)) (ok_iload 95 rfl rfl rfl (ok_iadd 96 rfl rfl (by first | omega | (simp [up_if]; omega) | (simp [up_if] at *; omega)) (ok_iald 97 rfl rfl rfl (by first | omega | (simp [up_if]; omega) | (simp [up_if] at *; omega)) (ok_i2l 98 rfl rfl (ok_callSL (M' := M_Mo_grown) (as := [_, _]) 99 rfl rfl ml_X12_226 (s_Mo_grown ⟨by omega, by omega⟩ ⟨by omega, by omega⟩) ⟨Nat.le_of_ble_eq_true rfl, Nat.le_of_ble_eq_true rfl⟩ rfl (Nat.le_of_ble_eq_true rfl) (fun σ' p hp => ?_))))))))))))))))
                      obtain ⟨hs_, hp⟩ := hp
                      rw [hs_]; clear hs_ σ'
                      refine ok_lst16 100 rfl rfl rfl (ok_iload 101 rfl rfl rfl (ok_i2l 102 rfl rfl (ok_lload 103 rfl rfl rfl (ok_lload 104 rfl rfl rfl (ok_ldiv 105 rfl rfl (by omega) (by omega) (ok_lmul 106 rfl rfl (by first | omega | (simp [up_if]; omega) | (simp [up_if] at *; omega)) (ok_aload_n 107 rfl rfl rfl (ok_getR 108 rfl rfl fl_X12_16 rfl rfl (ok_bipush 109 rfl rfl (by decide) (by decide) (ok_iload 110 rfl rfl rfl (ok_imul 111 rfl rfl (by first | omega | (simp [up_if]; omega) | (simp [up_if] at *; omega)) (ok_iload 112 rfl rfl rfl (ok_iadd 113 rfl rfl (by first | omega | (simp [up_if]; omega) | (simp [up_if] at *; omega)) (ok_iald 114 rfl rfl rfl (by first | omega | (simp [up_if]; omega) | (simp [up_if] at *; omega)) (ok_i2l 115 rfl rfl (ok_callSL (M' := M_Mo_grown) (as := [_, _]) 116 rfl rfl ml_X12_226 (s_Mo_grown ⟨by omega, by omega⟩ ⟨by omega, by omega⟩) ⟨Nat.le_of_ble_eq_true rfl, Nat.le_of_ble_eq_true rfl⟩ rfl (Nat.le_of_ble_eq_true rfl) (fun σ' q hq => ?_)))))))))))))))))
                      obtain ⟨hs_, hq⟩ := hq
                      rw [hs_]; clear hs_ σ'
                      refine ok_lst18 117 rfl rfl rfl (ok_lload 118 rfl rfl rfl (ok_lconst (w := 0) 119 rfl rfl rfl (by decide) (ok_lcmp_lt 120 121 234 rfl rfl rfl rfl rfl (fun h211 => ?_) (fun h211 => ?_))))
                      · refine ok_iconst 132 rfl rfl (by decide) (ok_zret 133 rfl rfl rfl (by first | omega | (simp [up_if]; omega) | (simp [up_if] at *; omega)) ?_)
                        exact fin τ i3 b1 k i1 (by omega) (by omega)
                      · refine ok_lload 122 rfl rfl rfl (ok_lconst (w := 0) 123 rfl rfl rfl (by decide) (ok_lcmp_lt 124 125 234 rfl rfl rfl rfl rfl (fun h218 => ?_) (fun h218 => ?_)))
                        · refine ok_iconst 132 rfl rfl (by decide) (ok_zret 133 rfl rfl rfl (by first | omega | (simp [up_if]; omega) | (simp [up_if] at *; omega)) ?_)
                          exact fin τ i3 b1 k i1 (by omega) (by omega)
                        · refine ok_lload 126 rfl rfl rfl (ok_lload 127 rfl rfl rfl (ok_ladd 128 rfl rfl (by first | omega | (simp [up_if]; omega) | (simp [up_if] at *; omega)) (ok_ldc2 129 (1000000000000000) rfl rfl kc_X12_217 (by decide) (ok_lcmp_le 130 131 236 rfl rfl rfl rfl rfl (fun h230 => ?_) (fun h230 => ?_)))))
                          · refine ok_aload_n 134 rfl rfl rfl (ok_getR 135 rfl rfl fl_X12_19 rfl rfl (ok_iload 136 rfl rfl rfl (ok_lload 137 rfl rfl rfl (ok_lload 138 rfl rfl rfl (ok_ladd 139 rfl rfl (by first | omega | (simp [up_if]; omega) | (simp [up_if] at *; omega)) (ok_last 140 rfl rfl rfl (by first | omega | (simp [up_if]; omega) | (simp [up_if] at *; omega)) (ok_inc15 141 rfl rfl rfl (by first | omega | (simp [up_if]; omega) | (simp [up_if] at *; omega)) (ok_goto 142 144 rfl rfl rfl ?_))))))))
                            refine ok_fg [some (vr 0), some (vi s), some (vi x), some (vi y), some (vi o), some (vi u), some (vi v), some (vi t), some (vl A), none, some (vl B), none, some (vl F), none, some (vi n), some (vi (k + 1)), none, none, none, none] ⟨rfl, rfl, rfl, rfl, rfl, rfl, rfl, rfl, rfl, rfl, rfl, rfl, rfl, trivial⟩ (ih (k + 1) _ ⟨by omega, by omega, fr_up i3 (by simp), fun j a b => ?_, fun c a b => ?_⟩ (by omega))
                            · rw [up_if]
                              split
                              · omega
                              · exact i4 j a (by omega)
                            · rcases (by omega : c < k ∨ c = k) with w | w
                              · rw [up_nk _ _ _ _ (by omega)]; exact i5 c a w
                              · rw [w, up_same]; exact ⟨by omega, by omega⟩
                          · refine ok_iconst 132 rfl rfl (by decide) (ok_zret 133 rfl rfl rfl (by first | omega | (simp [up_if]; omega) | (simp [up_if] at *; omega)) ?_)
                            exact fin τ i3 b1 k i1 (by omega) (by omega)
                  · refine ok_iconst 70 rfl rfl (by decide) (ok_zret 71 rfl rfl rfl (by first | omega | (simp [up_if]; omega) | (simp [up_if] at *; omega)) ?_)
                    exact no2 (by rw [hv, if_pos (by omega)])
                · refine ok_iconst 56 rfl rfl (by decide) (ok_zret 57 rfl rfl rfl (by first | omega | (simp [up_if]; omega) | (simp [up_if] at *; omega)) ?_)
                  exact no2 (lcS_big (by omega) (by omega) (by omega))
            · refine ok_iconst 28 rfl rfl (by decide) (ok_zret 29 rfl rfl rfl (by first | omega | (simp [up_if]; omega) | (simp [up_if] at *; omega)) ?_)
              exact no _ (no1 a5 h56) (fun w q => w q.2.1)
def tuB (σ : eS) (s w r n : Int) : Int → Int → Int := fun i j => cB σ s (tnR w r n i j) (tnC w r n i j)
def XuB (σ : eS) (s w r t : Int) (σ' : eS) (z : Int) : Prop := (z = 0 ∧ tbK σ σ' ∧ ¬ okU (σ 1 s) s w r t) ∨ (okU (σ 1 s) s w r t ∧ MB σ t (σ 1 s) (σ 2 s) (tuB σ s w r (σ 1 s)) σ' z)
theorem t_Mo_turn {σ : eS} {s w r t : Int} (hB : iB1 σ) : MtI shB M_Mo_turn [vr 0, vi s, vi w, vi r, vi t] σ (fun σ' z => QM σ σ' z ∧ XuB σ s w r t σ' z) := by
  refine Mt.of okM_Mo_turn (Nat.le_of_ble_eq_true rfl) (fun hk hg => ?_)
  have main : tabB σ s → (0 ≤ t ∧ t < 4) → (0 ≤ w ∧ w ≤ 5) → (3 < w → 0 ≤ r ∧ r < σ 1 s) → Ok shB M_Mo_turn 53 [some (vr 0), some (vi s), some (vi w), some (vi r), some (vi t), none, none, none, none, none] [] σ (fun σ' v => ∃ z, v = some (vi z) ∧ QM σ σ' z ∧ XuB σ s w r t σ' z) := by
    intro hs ht hw hr
    have hU : okU (σ 1 s) s w r t := ⟨⟨hs.1, hs.2.1, by have := hs.2.2; omega⟩, ht, hw, hr⟩
    obtain ⟨s1, s2, s3⟩ := id hs
    obtain ⟨g1, g2, g3⟩ := hB.1 s s1 s2
    obtain ⟨n, en⟩ : ∃ x, x = σ 1 s := ⟨_, rfl⟩
    rw [← en] at hr g1 g2 g3 s3
    obtain ⟨x1, x2⟩ := sq8 (n := n) ⟨by omega, by omega⟩
    refine ok_aload_n 30 rfl rfl rfl (ok_getR 31 rfl rfl fl_X12_7 rfl rfl (ok_iload_n 32 rfl rfl rfl (ok_iald 33 rfl rfl rfl (by first | omega | (simp [up_if]; omega) | (simp [up_if] at *; omega)) (ok_ist5 34 rfl rfl rfl (ok_iconst 35 rfl rfl (by decide) (ok_ist6 36 rfl rfl rfl ?_))))))
    rw [← en]
    refine lpO2 (fun (i : Int) (_ : eS) => [some (vr 0), some (vi s), some (vi w), some (vi r), some (vi t), some (vi n), some (vi i), none, none, none]) (fun _ τ => τ) (fun i τ => 0 ≤ i ∧ i ≤ n ∧ fr (fun c k => (c = 0 ∧ k = 4) ∨ c = 4) σ τ ∧ (∀ k, 0 ≤ k → k < 64 → 0 ≤ τ 4 k) ∧ ∀ x y, 0 ≤ x → x < i → 0 ≤ y → y < n → τ 4 (n * tgR w r n x y + tgC w r n x y) = cB σ s x y) (fun i _ => (n - i).toNat) ?_ 0 σ ⟨by omega, by omega, fr.rf, hB.2.2, fun x y p q => by omega⟩
    rintro i τ ⟨i1, i2, i3, i4, i5⟩ ih
    refine ok_iload 37 rfl rfl rfl (ok_iload 38 rfl rfl rfl (ok_icmp_ge 39 206 rfl rfl rfl (fun h68 => ?_) (fun h68 => ?_)))
    · obtain ⟨b1, b2⟩ := iB1_M hB i3 i4
      have bs := (b2 s)
      refine ok_aload_n 111 rfl rfl rfl (ok_aload_n 112 rfl rfl rfl (ok_getR 113 rfl rfl fl_X12_13 rfl rfl (ok_iload_n 114 rfl rfl rfl (ok_iald 115 rfl rfl rfl (by first | omega | (simp [up_if]; omega) | (simp [up_if] at *; omega)) (ok_i2l 116 rfl rfl (ok_putL 117 rfl rfl fl_X12_85 rfl rfl rfl rfl (ok_aload_n 118 rfl rfl rfl (ok_iload 119 rfl rfl rfl (ok_iload 120 rfl rfl rfl (ok_callVI (M' := M_Mo_takes) (as := [_, _]) 121 rfl rfl ml_X12_179 (s_Mo_takes ht ⟨by omega, by omega⟩ (by rw [up_same]; omega) (fun k a b => by rw [up_ne _ _ _ _ (by decide)]; exact i4 k a (by omega))) rfl rfl (Nat.le_of_ble_eq_true rfl) ⟨Nat.le_of_ble_eq_true rfl, Nat.le_of_ble_eq_true rfl⟩ rfl (Nat.le_of_ble_eq_true rfl) (fun σ' z hz => ?_)))))))))))
      have hq := Qtk.M (b1.fr (fun c k q => by rw [up_ne _ _ _ _ (by omega)])) ht ⟨by omega, by omega⟩ (by rw [up_same]; omega) (fun k a b => by rw [up_ne _ _ _ _ (by decide)]; exact i4 k a (by omega)) hz
      have hm := Qtk.B ⟨by omega, by omega⟩ (by rw [up_same]; omega) hz
      rw [up_same, bs.2] at hm
      refine ok_zret 122 rfl rfl rfl (by have := hq.2.2; omega) ?_
      refine ⟨_, rfl, hq.tr (fr_up (i3.mono (fun c k q => by simp only [rgM]; omega)) (by simp [rgM])), Or.inr ⟨hU, ?_⟩⟩
      rw [← en]
      refine MB_cg hm (tbK_M (fr_up i3 (by omega))) (fun x y p q r' c => ?_)
      obtain ⟨t1, t2, t3, t4⟩ := tn_tg (n := n) hw hr ⟨p, q⟩ ⟨r', c⟩
      have := i5 (tnR w r n x y) (tnC w r n x y) t1.1 (by omega) t2.1 t2.2
      rw [t3, t4] at this
      show up τ 0 4 _ 4 _ = _
      rw [up_ne _ _ _ _ (by decide)]
      exact this
    · refine ok_iconst 40 rfl rfl (by decide) (ok_ist7 41 rfl rfl rfl ?_)
      have il : i < n := by omega
      refine lpO2 (fun (j : Int) (_ : eS) => [some (vr 0), some (vi s), some (vi w), some (vi r), some (vi t), some (vi n), some (vi i), some (vi j), none, none]) (fun _ τ => τ) (fun j τ => 0 ≤ j ∧ j ≤ n ∧ fr (fun c k => (c = 0 ∧ k = 4) ∨ c = 4) σ τ ∧ (∀ k, 0 ≤ k → k < 64 → 0 ≤ τ 4 k) ∧ ∀ x y, 0 ≤ x → 0 ≤ y → y < n → (x < i ∨ (x = i ∧ y < j)) → τ 4 (n * tgR w r n x y + tgC w r n x y) = cB σ s x y) (fun j _ => (n - j).toNat) ?_ 0 τ ⟨by omega, by omega, i3, i4, fun x y p q r w => i5 x y p (by omega) q r⟩
      clear i3 i4 i5 τ
      rintro j τ ⟨j1, j2, i3, i4, i5⟩ ih2
      obtain ⟨b1, b2⟩ := iB1_M hB i3 i4
      have tk := tbK_M i3
      have bs := (b2 s).1
      have inner : j < n → ∀ a b : Int, a = tgR w r n i j → b = tgC w r n i j → Ok shB M_Mo_turn 171 [some (vr 0), some (vi s), some (vi w), some (vi r), some (vi t), some (vi n), some (vi i), some (vi j), some (vi a), some (vi b)] [] τ (fun σ' v => ∃ z, v = some (vi z) ∧ QM σ σ' z ∧ XuB σ s w r t σ' z) := by
        intro hj a b ea eb
        have hi := tg_in (n := n) (i := i) (j := j) hw hr ⟨by omega, by omega⟩ ⟨by omega, by omega⟩
        rw [← ea, ← eb] at hi
        obtain ⟨ha, hb⟩ := hi
        obtain ⟨y1, y2, y3, y4⟩ := ix8 (n := n) (i := a) (j := b) ⟨by omega, by omega⟩ ha hb
        have hc := cB_bd b1 ⟨s1, s2⟩ (i := i) (j := j) ⟨by omega, by omega⟩ ⟨by omega, by omega⟩
        refine ok_aload_n 93 rfl rfl rfl (ok_getR 94 rfl rfl fl_X12_19 rfl rfl (ok_iload 95 rfl rfl rfl (ok_iload 96 rfl rfl rfl (ok_imul 97 rfl rfl (by first | omega | (simp [up_if]; omega) | (simp [up_if] at *; omega)) (ok_iload 98 rfl rfl rfl (ok_iadd 99 rfl rfl (by first | omega | (simp [up_if]; omega) | (simp [up_if] at *; omega)) (ok_aload_n 100 rfl rfl rfl (ok_iload_n 101 rfl rfl rfl (ok_iload 102 rfl rfl rfl (ok_iload 103 rfl rfl rfl (ok_callVI (M' := M_Mo_at) (as := [_, _, _]) 104 rfl rfl ml_X12_107 (s_Mo_at b1 ⟨s1, s2⟩ ⟨by omega, by omega⟩ ⟨by omega, by omega⟩) rfl rfl (Nat.le_of_ble_eq_true rfl) ⟨Nat.le_of_ble_eq_true rfl, Nat.le_of_ble_eq_true rfl⟩ rfl (Nat.le_of_ble_eq_true rfl) (fun σ' z hz => ?_))))))))))))
        rw [hz.1, hz.2]
        clear hz z σ'
        refine ok_i2l 105 rfl rfl (ok_last 106 rfl rfl rfl (by first | omega | (simp [up_if]; omega) | (simp [up_if] at *; omega)) (ok_inc7 107 rfl rfl rfl (by first | omega | (simp [up_if]; omega) | (simp [up_if] at *; omega)) (ok_goto 108 74 rfl rfl rfl ?_)))
        refine ok_fg [some (vr 0), some (vi s), some (vi w), some (vi r), some (vi t), some (vi n), some (vi i), some (vi (j + 1)), none, none] ⟨rfl, rfl, rfl, rfl, rfl, rfl, rfl, rfl, trivial⟩ (ih2 (j + 1) _ ⟨by omega, by omega, fr_up i3 (by simp), fun k a b => ?_, fun x y p q r' c => ?_⟩ (by omega))
        · rw [up_if]
          split
          · omega
          · exact i4 k a b
        · rcases (by omega : (x < i ∨ (x = i ∧ y < j)) ∨ (x = i ∧ y = j)) with c | c
          · have hxy := tg_in (n := n) (i := x) (j := y) hw hr ⟨by omega, by omega⟩ ⟨by omega, by omega⟩
            rw [up_nk _ _ _ _ (fun e => by
              have e2 := nx_inj hxy.2 hb e
              rw [ea, eb] at e2
              have := tg_inj (n := n) hw hr ⟨by omega, by omega⟩ ⟨by omega, by omega⟩ ⟨by omega, by omega⟩ ⟨by omega, by omega⟩ e2.1 e2.2
              omega)]
            exact i5 x y p q r' c
          · rw [c.1, c.2, ← ea, ← eb, up_same, cB_cg tk]
      refine ok_iload 42 rfl rfl rfl (ok_iload 43 rfl rfl rfl (ok_icmp_ge 44 200 rfl rfl rfl (fun h78 => ?_) (fun h78 => ?_)))
      · refine ok_inc6 109 rfl rfl rfl (by first | omega | (simp [up_if]; omega) | (simp [up_if] at *; omega)) (ok_goto 110 64 rfl rfl rfl ?_)
        exact ok_fg [some (vr 0), some (vi s), some (vi w), some (vi r), some (vi t), some (vi n), some (vi (i + 1)), none, none, none] ⟨rfl, rfl, rfl, rfl, rfl, rfl, rfl, trivial⟩ (ih (i + 1) τ ⟨by omega, by omega, i3, i4, fun x y p q r' c => i5 x y p r' c (by omega)⟩ (by omega))
      · refine ok_iload_n 45 rfl rfl rfl (ok_iconst 46 rfl rfl (by decide) (ok_icmp_ne 47 91 rfl rfl rfl (fun h83 => ?_) (fun h83 => ?_)))
        · refine ok_iload_n 50 rfl rfl rfl (ok_iconst 51 rfl rfl (by decide) (ok_icmp_ne 52 106 rfl rfl rfl (fun h93 => ?_) (fun h93 => ?_)))
          · refine ok_iload_n 59 rfl rfl rfl (ok_iconst 60 rfl rfl (by decide) (ok_icmp_ne 61 122 rfl rfl rfl (fun h108 => ?_) (fun h108 => ?_)))
            · refine ok_iload 67 rfl rfl rfl (ok_ist8 68 rfl rfl rfl (ok_iload_n 69 rfl rfl rfl (ok_iconst 70 rfl rfl (by decide) (ok_icmp_ne 71 136 rfl rfl rfl (fun h128 => ?_) (fun h128 => ?_)))))
              · refine ok_iload_n 74 rfl rfl rfl (ok_iconst 75 rfl rfl (by decide) (ok_icmp_ne 76 151 rfl rfl rfl (fun h138 => ?_) (fun h138 => ?_)))
                · refine ok_iload_n 83 rfl rfl rfl (ok_iconst 84 rfl rfl (by decide) (ok_icmp_ne 85 167 rfl rfl rfl (fun h153 => ?_) (fun h153 => ?_)))
                  · refine ok_iload 91 rfl rfl rfl (ok_ist9 92 rfl rfl rfl ?_)
                    first | exact inner (by omega) _ _ (tgR_0 h83 h93 h108) (tgC_0 h128 h138 h153) | exact inner (by omega) _ _ (tgR_0 h83 h93 h108) (tgC_1 h128) | exact inner (by omega) _ _ (tgR_0 h83 h93 h108) (tgC_3 h128 h138) | exact inner (by omega) _ _ (tgR_0 h83 h93 h108) (tgC_5 h128 h138 h153 q3) | exact inner (by omega) _ _ (tgR_1 h83) (tgC_0 h128 h138 h153) | exact inner (by omega) _ _ (tgR_1 h83) (tgC_1 h128) | exact inner (by omega) _ _ (tgR_1 h83) (tgC_3 h128 h138) | exact inner (by omega) _ _ (tgR_1 h83) (tgC_5 h128 h138 h153 q3) | exact inner (by omega) _ _ (tgR_2 h83 h93) (tgC_0 h128 h138 h153) | exact inner (by omega) _ _ (tgR_2 h83 h93) (tgC_1 h128) | exact inner (by omega) _ _ (tgR_2 h83 h93) (tgC_3 h128 h138) | exact inner (by omega) _ _ (tgR_2 h83 h93) (tgC_5 h128 h138 h153 q3) | exact inner (by omega) _ _ (tgR_4 h83 h93 h108 q1) (tgC_0 h128 h138 h153) | exact inner (by omega) _ _ (tgR_4 h83 h93 h108 q1) (tgC_1 h128) | exact inner (by omega) _ _ (tgR_4 h83 h93 h108 q1) (tgC_3 h128 h138) | exact inner (by omega) _ _ (tgR_4 h83 h93 h108 q1) (tgC_5 h128 h138 h153 q3)
                  · refine ok_iload 86 rfl rfl rfl (ok_iload_n 87 rfl rfl rfl (ok_iload 88 rfl rfl rfl (ok_callSI (M' := M_Mo_behind) (as := [_, _, _]) 89 rfl rfl ml_X12_231 (s_Mo_behind ⟨by omega, by omega, by omega, by omega⟩) ⟨Nat.le_of_ble_eq_true rfl, Nat.le_of_ble_eq_true rfl⟩ rfl (Nat.le_of_ble_eq_true rfl) (fun σ' z2 q3 => ?_))))
                    obtain ⟨hs_, q3⟩ := q3
                    rw [hs_]; clear hs_ σ'
                    refine ok_goto 90 169 rfl rfl rfl (ok_ist9 92 rfl rfl rfl ?_)
                    first | exact inner (by omega) _ _ (tgR_0 h83 h93 h108) (tgC_0 h128 h138 h153) | exact inner (by omega) _ _ (tgR_0 h83 h93 h108) (tgC_1 h128) | exact inner (by omega) _ _ (tgR_0 h83 h93 h108) (tgC_3 h128 h138) | exact inner (by omega) _ _ (tgR_0 h83 h93 h108) (tgC_5 h128 h138 h153 q3) | exact inner (by omega) _ _ (tgR_1 h83) (tgC_0 h128 h138 h153) | exact inner (by omega) _ _ (tgR_1 h83) (tgC_1 h128) | exact inner (by omega) _ _ (tgR_1 h83) (tgC_3 h128 h138) | exact inner (by omega) _ _ (tgR_1 h83) (tgC_5 h128 h138 h153 q3) | exact inner (by omega) _ _ (tgR_2 h83 h93) (tgC_0 h128 h138 h153) | exact inner (by omega) _ _ (tgR_2 h83 h93) (tgC_1 h128) | exact inner (by omega) _ _ (tgR_2 h83 h93) (tgC_3 h128 h138) | exact inner (by omega) _ _ (tgR_2 h83 h93) (tgC_5 h128 h138 h153 q3) | exact inner (by omega) _ _ (tgR_4 h83 h93 h108 q1) (tgC_0 h128 h138 h153) | exact inner (by omega) _ _ (tgR_4 h83 h93 h108 q1) (tgC_1 h128) | exact inner (by omega) _ _ (tgR_4 h83 h93 h108 q1) (tgC_3 h128 h138) | exact inner (by omega) _ _ (tgR_4 h83 h93 h108 q1) (tgC_5 h128 h138 h153 q3)
                · refine ok_iload 77 rfl rfl rfl (ok_iconst 78 rfl rfl (by decide) (ok_isub 79 rfl rfl (by first | omega | (simp [up_if]; omega) | (simp [up_if] at *; omega)) (ok_iload 80 rfl rfl rfl (ok_isub 81 rfl rfl (by first | omega | (simp [up_if]; omega) | (simp [up_if] at *; omega)) (ok_goto 82 169 rfl rfl rfl (ok_ist9 92 rfl rfl rfl ?_))))))
                  first | exact inner (by omega) _ _ (tgR_0 h83 h93 h108) (tgC_0 h128 h138 h153) | exact inner (by omega) _ _ (tgR_0 h83 h93 h108) (tgC_1 h128) | exact inner (by omega) _ _ (tgR_0 h83 h93 h108) (tgC_3 h128 h138) | exact inner (by omega) _ _ (tgR_0 h83 h93 h108) (tgC_5 h128 h138 h153 q3) | exact inner (by omega) _ _ (tgR_1 h83) (tgC_0 h128 h138 h153) | exact inner (by omega) _ _ (tgR_1 h83) (tgC_1 h128) | exact inner (by omega) _ _ (tgR_1 h83) (tgC_3 h128 h138) | exact inner (by omega) _ _ (tgR_1 h83) (tgC_5 h128 h138 h153 q3) | exact inner (by omega) _ _ (tgR_2 h83 h93) (tgC_0 h128 h138 h153) | exact inner (by omega) _ _ (tgR_2 h83 h93) (tgC_1 h128) | exact inner (by omega) _ _ (tgR_2 h83 h93) (tgC_3 h128 h138) | exact inner (by omega) _ _ (tgR_2 h83 h93) (tgC_5 h128 h138 h153 q3) | exact inner (by omega) _ _ (tgR_4 h83 h93 h108 q1) (tgC_0 h128 h138 h153) | exact inner (by omega) _ _ (tgR_4 h83 h93 h108 q1) (tgC_1 h128) | exact inner (by omega) _ _ (tgR_4 h83 h93 h108 q1) (tgC_3 h128 h138) | exact inner (by omega) _ _ (tgR_4 h83 h93 h108 q1) (tgC_5 h128 h138 h153 q3)
              · refine ok_iload 72 rfl rfl rfl (ok_goto 73 169 rfl rfl rfl (ok_ist9 92 rfl rfl rfl ?_))
                first | exact inner (by omega) _ _ (tgR_0 h83 h93 h108) (tgC_0 h128 h138 h153) | exact inner (by omega) _ _ (tgR_0 h83 h93 h108) (tgC_1 h128) | exact inner (by omega) _ _ (tgR_0 h83 h93 h108) (tgC_3 h128 h138) | exact inner (by omega) _ _ (tgR_0 h83 h93 h108) (tgC_5 h128 h138 h153 q3) | exact inner (by omega) _ _ (tgR_1 h83) (tgC_0 h128 h138 h153) | exact inner (by omega) _ _ (tgR_1 h83) (tgC_1 h128) | exact inner (by omega) _ _ (tgR_1 h83) (tgC_3 h128 h138) | exact inner (by omega) _ _ (tgR_1 h83) (tgC_5 h128 h138 h153 q3) | exact inner (by omega) _ _ (tgR_2 h83 h93) (tgC_0 h128 h138 h153) | exact inner (by omega) _ _ (tgR_2 h83 h93) (tgC_1 h128) | exact inner (by omega) _ _ (tgR_2 h83 h93) (tgC_3 h128 h138) | exact inner (by omega) _ _ (tgR_2 h83 h93) (tgC_5 h128 h138 h153 q3) | exact inner (by omega) _ _ (tgR_4 h83 h93 h108 q1) (tgC_0 h128 h138 h153) | exact inner (by omega) _ _ (tgR_4 h83 h93 h108 q1) (tgC_1 h128) | exact inner (by omega) _ _ (tgR_4 h83 h93 h108 q1) (tgC_3 h128 h138) | exact inner (by omega) _ _ (tgR_4 h83 h93 h108 q1) (tgC_5 h128 h138 h153 q3)
            · refine ok_iload 62 rfl rfl rfl (ok_iload_n 63 rfl rfl rfl (ok_iload 64 rfl rfl rfl (ok_callSI (M' := M_Mo_behind) (as := [_, _, _]) 65 rfl rfl ml_X12_231 (s_Mo_behind ⟨by omega, by omega, by omega, by omega⟩) ⟨Nat.le_of_ble_eq_true rfl, Nat.le_of_ble_eq_true rfl⟩ rfl (Nat.le_of_ble_eq_true rfl) (fun σ' z1 q1 => ?_))))
              obtain ⟨hs_, q1⟩ := q1
              rw [hs_]; clear hs_ σ'
              refine ok_goto 66 124 rfl rfl rfl (ok_ist8 68 rfl rfl rfl (ok_iload_n 69 rfl rfl rfl (ok_iconst 70 rfl rfl (by decide) (ok_icmp_ne 71 136 rfl rfl rfl (fun h128 => ?_) (fun h128 => ?_)))))
              · refine ok_iload_n 74 rfl rfl rfl (ok_iconst 75 rfl rfl (by decide) (ok_icmp_ne 76 151 rfl rfl rfl (fun h138 => ?_) (fun h138 => ?_)))
                · refine ok_iload_n 83 rfl rfl rfl (ok_iconst 84 rfl rfl (by decide) (ok_icmp_ne 85 167 rfl rfl rfl (fun h153 => ?_) (fun h153 => ?_)))
                  · refine ok_iload 91 rfl rfl rfl (ok_ist9 92 rfl rfl rfl ?_)
                    first | exact inner (by omega) _ _ (tgR_0 h83 h93 h108) (tgC_0 h128 h138 h153) | exact inner (by omega) _ _ (tgR_0 h83 h93 h108) (tgC_1 h128) | exact inner (by omega) _ _ (tgR_0 h83 h93 h108) (tgC_3 h128 h138) | exact inner (by omega) _ _ (tgR_0 h83 h93 h108) (tgC_5 h128 h138 h153 q3) | exact inner (by omega) _ _ (tgR_1 h83) (tgC_0 h128 h138 h153) | exact inner (by omega) _ _ (tgR_1 h83) (tgC_1 h128) | exact inner (by omega) _ _ (tgR_1 h83) (tgC_3 h128 h138) | exact inner (by omega) _ _ (tgR_1 h83) (tgC_5 h128 h138 h153 q3) | exact inner (by omega) _ _ (tgR_2 h83 h93) (tgC_0 h128 h138 h153) | exact inner (by omega) _ _ (tgR_2 h83 h93) (tgC_1 h128) | exact inner (by omega) _ _ (tgR_2 h83 h93) (tgC_3 h128 h138) | exact inner (by omega) _ _ (tgR_2 h83 h93) (tgC_5 h128 h138 h153 q3) | exact inner (by omega) _ _ (tgR_4 h83 h93 h108 q1) (tgC_0 h128 h138 h153) | exact inner (by omega) _ _ (tgR_4 h83 h93 h108 q1) (tgC_1 h128) | exact inner (by omega) _ _ (tgR_4 h83 h93 h108 q1) (tgC_3 h128 h138) | exact inner (by omega) _ _ (tgR_4 h83 h93 h108 q1) (tgC_5 h128 h138 h153 q3)
                  · refine ok_iload 86 rfl rfl rfl (ok_iload_n 87 rfl rfl rfl (ok_iload 88 rfl rfl rfl (ok_callSI (M' := M_Mo_behind) (as := [_, _, _]) 89 rfl rfl ml_X12_231 (s_Mo_behind ⟨by omega, by omega, by omega, by omega⟩) ⟨Nat.le_of_ble_eq_true rfl, Nat.le_of_ble_eq_true rfl⟩ rfl (Nat.le_of_ble_eq_true rfl) (fun σ' z2 q3 => ?_))))
                    obtain ⟨hs_, q3⟩ := q3
                    rw [hs_]; clear hs_ σ'
                    refine ok_goto 90 169 rfl rfl rfl (ok_ist9 92 rfl rfl rfl ?_)
                    first | exact inner (by omega) _ _ (tgR_0 h83 h93 h108) (tgC_0 h128 h138 h153) | exact inner (by omega) _ _ (tgR_0 h83 h93 h108) (tgC_1 h128) | exact inner (by omega) _ _ (tgR_0 h83 h93 h108) (tgC_3 h128 h138) | exact inner (by omega) _ _ (tgR_0 h83 h93 h108) (tgC_5 h128 h138 h153 q3) | exact inner (by omega) _ _ (tgR_1 h83) (tgC_0 h128 h138 h153) | exact inner (by omega) _ _ (tgR_1 h83) (tgC_1 h128) | exact inner (by omega) _ _ (tgR_1 h83) (tgC_3 h128 h138) | exact inner (by omega) _ _ (tgR_1 h83) (tgC_5 h128 h138 h153 q3) | exact inner (by omega) _ _ (tgR_2 h83 h93) (tgC_0 h128 h138 h153) | exact inner (by omega) _ _ (tgR_2 h83 h93) (tgC_1 h128) | exact inner (by omega) _ _ (tgR_2 h83 h93) (tgC_3 h128 h138) | exact inner (by omega) _ _ (tgR_2 h83 h93) (tgC_5 h128 h138 h153 q3) | exact inner (by omega) _ _ (tgR_4 h83 h93 h108 q1) (tgC_0 h128 h138 h153) | exact inner (by omega) _ _ (tgR_4 h83 h93 h108 q1) (tgC_1 h128) | exact inner (by omega) _ _ (tgR_4 h83 h93 h108 q1) (tgC_3 h128 h138) | exact inner (by omega) _ _ (tgR_4 h83 h93 h108 q1) (tgC_5 h128 h138 h153 q3)
                · refine ok_iload 77 rfl rfl rfl (ok_iconst 78 rfl rfl (by decide) (ok_isub 79 rfl rfl (by first | omega | (simp [up_if]; omega) | (simp [up_if] at *; omega)) (ok_iload 80 rfl rfl rfl (ok_isub 81 rfl rfl (by first | omega | (simp [up_if]; omega) | (simp [up_if] at *; omega)) (ok_goto 82 169 rfl rfl rfl (ok_ist9 92 rfl rfl rfl ?_))))))
                  first | exact inner (by omega) _ _ (tgR_0 h83 h93 h108) (tgC_0 h128 h138 h153) | exact inner (by omega) _ _ (tgR_0 h83 h93 h108) (tgC_1 h128) | exact inner (by omega) _ _ (tgR_0 h83 h93 h108) (tgC_3 h128 h138) | exact inner (by omega) _ _ (tgR_0 h83 h93 h108) (tgC_5 h128 h138 h153 q3) | exact inner (by omega) _ _ (tgR_1 h83) (tgC_0 h128 h138 h153) | exact inner (by omega) _ _ (tgR_1 h83) (tgC_1 h128) | exact inner (by omega) _ _ (tgR_1 h83) (tgC_3 h128 h138) | exact inner (by omega) _ _ (tgR_1 h83) (tgC_5 h128 h138 h153 q3) | exact inner (by omega) _ _ (tgR_2 h83 h93) (tgC_0 h128 h138 h153) | exact inner (by omega) _ _ (tgR_2 h83 h93) (tgC_1 h128) | exact inner (by omega) _ _ (tgR_2 h83 h93) (tgC_3 h128 h138) | exact inner (by omega) _ _ (tgR_2 h83 h93) (tgC_5 h128 h138 h153 q3) | exact inner (by omega) _ _ (tgR_4 h83 h93 h108 q1) (tgC_0 h128 h138 h153) | exact inner (by omega) _ _ (tgR_4 h83 h93 h108 q1) (tgC_1 h128) | exact inner (by omega) _ _ (tgR_4 h83 h93 h108 q1) (tgC_3 h128 h138) | exact inner (by omega) _ _ (tgR_4 h83 h93 h108 q1) (tgC_5 h128 h138 h153 q3)
              · refine ok_iload 72 rfl rfl rfl (ok_goto 73 169 rfl rfl rfl (ok_ist9 92 rfl rfl rfl ?_))
                first | exact inner (by omega) _ _ (tgR_0 h83 h93 h108) (tgC_0 h128 h138 h153) | exact inner (by omega) _ _ (tgR_0 h83 h93 h108) (tgC_1 h128) | exact inner (by omega) _ _ (tgR_0 h83 h93 h108) (tgC_3 h128 h138) | exact inner (by omega) _ _ (tgR_0 h83 h93 h108) (tgC_5 h128 h138 h153 q3) | exact inner (by omega) _ _ (tgR_1 h83) (tgC_0 h128 h138 h153) | exact inner (by omega) _ _ (tgR_1 h83) (tgC_1 h128) | exact inner (by omega) _ _ (tgR_1 h83) (tgC_3 h128 h138) | exact inner (by omega) _ _ (tgR_1 h83) (tgC_5 h128 h138 h153 q3) | exact inner (by omega) _ _ (tgR_2 h83 h93) (tgC_0 h128 h138 h153) | exact inner (by omega) _ _ (tgR_2 h83 h93) (tgC_1 h128) | exact inner (by omega) _ _ (tgR_2 h83 h93) (tgC_3 h128 h138) | exact inner (by omega) _ _ (tgR_2 h83 h93) (tgC_5 h128 h138 h153 q3) | exact inner (by omega) _ _ (tgR_4 h83 h93 h108 q1) (tgC_0 h128 h138 h153) | exact inner (by omega) _ _ (tgR_4 h83 h93 h108 q1) (tgC_1 h128) | exact inner (by omega) _ _ (tgR_4 h83 h93 h108 q1) (tgC_3 h128 h138) | exact inner (by omega) _ _ (tgR_4 h83 h93 h108 q1) (tgC_5 h128 h138 h153 q3)
          · refine ok_iload 53 rfl rfl rfl (ok_iconst 54 rfl rfl (by decide) (ok_isub 55 rfl rfl (by first | omega | (simp [up_if]; omega) | (simp [up_if] at *; omega)) (ok_iload 56 rfl rfl rfl (ok_isub 57 rfl rfl (by first | omega | (simp [up_if]; omega) | (simp [up_if] at *; omega)) (ok_goto 58 124 rfl rfl rfl (ok_ist8 68 rfl rfl rfl (ok_iload_n 69 rfl rfl rfl (ok_iconst 70 rfl rfl (by decide) (ok_icmp_ne 71 136 rfl rfl rfl (fun h128 => ?_) (fun h128 => ?_))))))))))
            · refine ok_iload_n 74 rfl rfl rfl (ok_iconst 75 rfl rfl (by decide) (ok_icmp_ne 76 151 rfl rfl rfl (fun h138 => ?_) (fun h138 => ?_)))
              · refine ok_iload_n 83 rfl rfl rfl (ok_iconst 84 rfl rfl (by decide) (ok_icmp_ne 85 167 rfl rfl rfl (fun h153 => ?_) (fun h153 => ?_)))
                · refine ok_iload 91 rfl rfl rfl (ok_ist9 92 rfl rfl rfl ?_)
                  first | exact inner (by omega) _ _ (tgR_0 h83 h93 h108) (tgC_0 h128 h138 h153) | exact inner (by omega) _ _ (tgR_0 h83 h93 h108) (tgC_1 h128) | exact inner (by omega) _ _ (tgR_0 h83 h93 h108) (tgC_3 h128 h138) | exact inner (by omega) _ _ (tgR_0 h83 h93 h108) (tgC_5 h128 h138 h153 q3) | exact inner (by omega) _ _ (tgR_1 h83) (tgC_0 h128 h138 h153) | exact inner (by omega) _ _ (tgR_1 h83) (tgC_1 h128) | exact inner (by omega) _ _ (tgR_1 h83) (tgC_3 h128 h138) | exact inner (by omega) _ _ (tgR_1 h83) (tgC_5 h128 h138 h153 q3) | exact inner (by omega) _ _ (tgR_2 h83 h93) (tgC_0 h128 h138 h153) | exact inner (by omega) _ _ (tgR_2 h83 h93) (tgC_1 h128) | exact inner (by omega) _ _ (tgR_2 h83 h93) (tgC_3 h128 h138) | exact inner (by omega) _ _ (tgR_2 h83 h93) (tgC_5 h128 h138 h153 q3) | exact inner (by omega) _ _ (tgR_4 h83 h93 h108 q1) (tgC_0 h128 h138 h153) | exact inner (by omega) _ _ (tgR_4 h83 h93 h108 q1) (tgC_1 h128) | exact inner (by omega) _ _ (tgR_4 h83 h93 h108 q1) (tgC_3 h128 h138) | exact inner (by omega) _ _ (tgR_4 h83 h93 h108 q1) (tgC_5 h128 h138 h153 q3)
                · refine ok_iload 86 rfl rfl rfl (ok_iload_n 87 rfl rfl rfl (ok_iload 88 rfl rfl rfl (ok_callSI (M' := M_Mo_behind) (as := [_, _, _]) 89 rfl rfl ml_X12_231 (s_Mo_behind ⟨by omega, by omega, by omega, by omega⟩) ⟨Nat.le_of_ble_eq_true rfl, Nat.le_of_ble_eq_true rfl⟩ rfl (Nat.le_of_ble_eq_true rfl) (fun σ' z2 q3 => ?_))))
                  obtain ⟨hs_, q3⟩ := q3
                  rw [hs_]; clear hs_ σ'
                  refine ok_goto 90 169 rfl rfl rfl (ok_ist9 92 rfl rfl rfl ?_)
                  first | exact inner (by omega) _ _ (tgR_0 h83 h93 h108) (tgC_0 h128 h138 h153) | exact inner (by omega) _ _ (tgR_0 h83 h93 h108) (tgC_1 h128) | exact inner (by omega) _ _ (tgR_0 h83 h93 h108) (tgC_3 h128 h138) | exact inner (by omega) _ _ (tgR_0 h83 h93 h108) (tgC_5 h128 h138 h153 q3) | exact inner (by omega) _ _ (tgR_1 h83) (tgC_0 h128 h138 h153) | exact inner (by omega) _ _ (tgR_1 h83) (tgC_1 h128) | exact inner (by omega) _ _ (tgR_1 h83) (tgC_3 h128 h138) | exact inner (by omega) _ _ (tgR_1 h83) (tgC_5 h128 h138 h153 q3) | exact inner (by omega) _ _ (tgR_2 h83 h93) (tgC_0 h128 h138 h153) | exact inner (by omega) _ _ (tgR_2 h83 h93) (tgC_1 h128) | exact inner (by omega) _ _ (tgR_2 h83 h93) (tgC_3 h128 h138) | exact inner (by omega) _ _ (tgR_2 h83 h93) (tgC_5 h128 h138 h153 q3) | exact inner (by omega) _ _ (tgR_4 h83 h93 h108 q1) (tgC_0 h128 h138 h153) | exact inner (by omega) _ _ (tgR_4 h83 h93 h108 q1) (tgC_1 h128) | exact inner (by omega) _ _ (tgR_4 h83 h93 h108 q1) (tgC_3 h128 h138) | exact inner (by omega) _ _ (tgR_4 h83 h93 h108 q1) (tgC_5 h128 h138 h153 q3)
              · refine ok_iload 77 rfl rfl rfl (ok_iconst 78 rfl rfl (by decide) (ok_isub 79 rfl rfl (by first | omega | (simp [up_if]; omega) | (simp [up_if] at *; omega)) (ok_iload 80 rfl rfl rfl (ok_isub 81 rfl rfl (by first | omega | (simp [up_if]; omega) | (simp [up_if] at *; omega)) (ok_goto 82 169 rfl rfl rfl (ok_ist9 92 rfl rfl rfl ?_))))))
                first | exact inner (by omega) _ _ (tgR_0 h83 h93 h108) (tgC_0 h128 h138 h153) | exact inner (by omega) _ _ (tgR_0 h83 h93 h108) (tgC_1 h128) | exact inner (by omega) _ _ (tgR_0 h83 h93 h108) (tgC_3 h128 h138) | exact inner (by omega) _ _ (tgR_0 h83 h93 h108) (tgC_5 h128 h138 h153 q3) | exact inner (by omega) _ _ (tgR_1 h83) (tgC_0 h128 h138 h153) | exact inner (by omega) _ _ (tgR_1 h83) (tgC_1 h128) | exact inner (by omega) _ _ (tgR_1 h83) (tgC_3 h128 h138) | exact inner (by omega) _ _ (tgR_1 h83) (tgC_5 h128 h138 h153 q3) | exact inner (by omega) _ _ (tgR_2 h83 h93) (tgC_0 h128 h138 h153) | exact inner (by omega) _ _ (tgR_2 h83 h93) (tgC_1 h128) | exact inner (by omega) _ _ (tgR_2 h83 h93) (tgC_3 h128 h138) | exact inner (by omega) _ _ (tgR_2 h83 h93) (tgC_5 h128 h138 h153 q3) | exact inner (by omega) _ _ (tgR_4 h83 h93 h108 q1) (tgC_0 h128 h138 h153) | exact inner (by omega) _ _ (tgR_4 h83 h93 h108 q1) (tgC_1 h128) | exact inner (by omega) _ _ (tgR_4 h83 h93 h108 q1) (tgC_3 h128 h138) | exact inner (by omega) _ _ (tgR_4 h83 h93 h108 q1) (tgC_5 h128 h138 h153 q3)
            · refine ok_iload 72 rfl rfl rfl (ok_goto 73 169 rfl rfl rfl (ok_ist9 92 rfl rfl rfl ?_))
              first | exact inner (by omega) _ _ (tgR_0 h83 h93 h108) (tgC_0 h128 h138 h153) | exact inner (by omega) _ _ (tgR_0 h83 h93 h108) (tgC_1 h128) | exact inner (by omega) _ _ (tgR_0 h83 h93 h108) (tgC_3 h128 h138) | exact inner (by omega) _ _ (tgR_0 h83 h93 h108) (tgC_5 h128 h138 h153 q3) | exact inner (by omega) _ _ (tgR_1 h83) (tgC_0 h128 h138 h153) | exact inner (by omega) _ _ (tgR_1 h83) (tgC_1 h128) | exact inner (by omega) _ _ (tgR_1 h83) (tgC_3 h128 h138) | exact inner (by omega) _ _ (tgR_1 h83) (tgC_5 h128 h138 h153 q3) | exact inner (by omega) _ _ (tgR_2 h83 h93) (tgC_0 h128 h138 h153) | exact inner (by omega) _ _ (tgR_2 h83 h93) (tgC_1 h128) | exact inner (by omega) _ _ (tgR_2 h83 h93) (tgC_3 h128 h138) | exact inner (by omega) _ _ (tgR_2 h83 h93) (tgC_5 h128 h138 h153 q3) | exact inner (by omega) _ _ (tgR_4 h83 h93 h108 q1) (tgC_0 h128 h138 h153) | exact inner (by omega) _ _ (tgR_4 h83 h93 h108 q1) (tgC_1 h128) | exact inner (by omega) _ _ (tgR_4 h83 h93 h108 q1) (tgC_3 h128 h138) | exact inner (by omega) _ _ (tgR_4 h83 h93 h108 q1) (tgC_5 h128 h138 h153 q3)
        · refine ok_iload 48 rfl rfl rfl (ok_goto 49 124 rfl rfl rfl (ok_ist8 68 rfl rfl rfl (ok_iload_n 69 rfl rfl rfl (ok_iconst 70 rfl rfl (by decide) (ok_icmp_ne 71 136 rfl rfl rfl (fun h128 => ?_) (fun h128 => ?_))))))
          · refine ok_iload_n 74 rfl rfl rfl (ok_iconst 75 rfl rfl (by decide) (ok_icmp_ne 76 151 rfl rfl rfl (fun h138 => ?_) (fun h138 => ?_)))
            · refine ok_iload_n 83 rfl rfl rfl (ok_iconst 84 rfl rfl (by decide) (ok_icmp_ne 85 167 rfl rfl rfl (fun h153 => ?_) (fun h153 => ?_)))
              · refine ok_iload 91 rfl rfl rfl (ok_ist9 92 rfl rfl rfl ?_)
                first | exact inner (by omega) _ _ (tgR_0 h83 h93 h108) (tgC_0 h128 h138 h153) | exact inner (by omega) _ _ (tgR_0 h83 h93 h108) (tgC_1 h128) | exact inner (by omega) _ _ (tgR_0 h83 h93 h108) (tgC_3 h128 h138) | exact inner (by omega) _ _ (tgR_0 h83 h93 h108) (tgC_5 h128 h138 h153 q3) | exact inner (by omega) _ _ (tgR_1 h83) (tgC_0 h128 h138 h153) | exact inner (by omega) _ _ (tgR_1 h83) (tgC_1 h128) | exact inner (by omega) _ _ (tgR_1 h83) (tgC_3 h128 h138) | exact inner (by omega) _ _ (tgR_1 h83) (tgC_5 h128 h138 h153 q3) | exact inner (by omega) _ _ (tgR_2 h83 h93) (tgC_0 h128 h138 h153) | exact inner (by omega) _ _ (tgR_2 h83 h93) (tgC_1 h128) | exact inner (by omega) _ _ (tgR_2 h83 h93) (tgC_3 h128 h138) | exact inner (by omega) _ _ (tgR_2 h83 h93) (tgC_5 h128 h138 h153 q3) | exact inner (by omega) _ _ (tgR_4 h83 h93 h108 q1) (tgC_0 h128 h138 h153) | exact inner (by omega) _ _ (tgR_4 h83 h93 h108 q1) (tgC_1 h128) | exact inner (by omega) _ _ (tgR_4 h83 h93 h108 q1) (tgC_3 h128 h138) | exact inner (by omega) _ _ (tgR_4 h83 h93 h108 q1) (tgC_5 h128 h138 h153 q3)
              · refine ok_iload 86 rfl rfl rfl (ok_iload_n 87 rfl rfl rfl (ok_iload 88 rfl rfl rfl (ok_callSI (M' := M_Mo_behind) (as := [_, _, _]) 89 rfl rfl ml_X12_231 (s_Mo_behind ⟨by omega, by omega, by omega, by omega⟩) ⟨Nat.le_of_ble_eq_true rfl, Nat.le_of_ble_eq_true rfl⟩ rfl (Nat.le_of_ble_eq_true rfl) (fun σ' z2 q3 => ?_))))
                obtain ⟨hs_, q3⟩ := q3
                rw [hs_]; clear hs_ σ'
                refine ok_goto 90 169 rfl rfl rfl (ok_ist9 92 rfl rfl rfl ?_)
                first | exact inner (by omega) _ _ (tgR_0 h83 h93 h108) (tgC_0 h128 h138 h153) | exact inner (by omega) _ _ (tgR_0 h83 h93 h108) (tgC_1 h128) | exact inner (by omega) _ _ (tgR_0 h83 h93 h108) (tgC_3 h128 h138) | exact inner (by omega) _ _ (tgR_0 h83 h93 h108) (tgC_5 h128 h138 h153 q3) | exact inner (by omega) _ _ (tgR_1 h83) (tgC_0 h128 h138 h153) | exact inner (by omega) _ _ (tgR_1 h83) (tgC_1 h128) | exact inner (by omega) _ _ (tgR_1 h83) (tgC_3 h128 h138) | exact inner (by omega) _ _ (tgR_1 h83) (tgC_5 h128 h138 h153 q3) | exact inner (by omega) _ _ (tgR_2 h83 h93) (tgC_0 h128 h138 h153) | exact inner (by omega) _ _ (tgR_2 h83 h93) (tgC_1 h128) | exact inner (by omega) _ _ (tgR_2 h83 h93) (tgC_3 h128 h138) | exact inner (by omega) _ _ (tgR_2 h83 h93) (tgC_5 h128 h138 h153 q3) | exact inner (by omega) _ _ (tgR_4 h83 h93 h108 q1) (tgC_0 h128 h138 h153) | exact inner (by omega) _ _ (tgR_4 h83 h93 h108 q1) (tgC_1 h128) | exact inner (by omega) _ _ (tgR_4 h83 h93 h108 q1) (tgC_3 h128 h138) | exact inner (by omega) _ _ (tgR_4 h83 h93 h108 q1) (tgC_5 h128 h138 h153 q3)
            · refine ok_iload 77 rfl rfl rfl (ok_iconst 78 rfl rfl (by decide) (ok_isub 79 rfl rfl (by first | omega | (simp [up_if]; omega) | (simp [up_if] at *; omega)) (ok_iload 80 rfl rfl rfl (ok_isub 81 rfl rfl (by first | omega | (simp [up_if]; omega) | (simp [up_if] at *; omega)) (ok_goto 82 169 rfl rfl rfl (ok_ist9 92 rfl rfl rfl ?_))))))
              first | exact inner (by omega) _ _ (tgR_0 h83 h93 h108) (tgC_0 h128 h138 h153) | exact inner (by omega) _ _ (tgR_0 h83 h93 h108) (tgC_1 h128) | exact inner (by omega) _ _ (tgR_0 h83 h93 h108) (tgC_3 h128 h138) | exact inner (by omega) _ _ (tgR_0 h83 h93 h108) (tgC_5 h128 h138 h153 q3) | exact inner (by omega) _ _ (tgR_1 h83) (tgC_0 h128 h138 h153) | exact inner (by omega) _ _ (tgR_1 h83) (tgC_1 h128) | exact inner (by omega) _ _ (tgR_1 h83) (tgC_3 h128 h138) | exact inner (by omega) _ _ (tgR_1 h83) (tgC_5 h128 h138 h153 q3) | exact inner (by omega) _ _ (tgR_2 h83 h93) (tgC_0 h128 h138 h153) | exact inner (by omega) _ _ (tgR_2 h83 h93) (tgC_1 h128) | exact inner (by omega) _ _ (tgR_2 h83 h93) (tgC_3 h128 h138) | exact inner (by omega) _ _ (tgR_2 h83 h93) (tgC_5 h128 h138 h153 q3) | exact inner (by omega) _ _ (tgR_4 h83 h93 h108 q1) (tgC_0 h128 h138 h153) | exact inner (by omega) _ _ (tgR_4 h83 h93 h108 q1) (tgC_1 h128) | exact inner (by omega) _ _ (tgR_4 h83 h93 h108 q1) (tgC_3 h128 h138) | exact inner (by omega) _ _ (tgR_4 h83 h93 h108 q1) (tgC_5 h128 h138 h153 q3)
          · refine ok_iload 72 rfl rfl rfl (ok_goto 73 169 rfl rfl rfl (ok_ist9 92 rfl rfl rfl ?_))
            first | exact inner (by omega) _ _ (tgR_0 h83 h93 h108) (tgC_0 h128 h138 h153) | exact inner (by omega) _ _ (tgR_0 h83 h93 h108) (tgC_1 h128) | exact inner (by omega) _ _ (tgR_0 h83 h93 h108) (tgC_3 h128 h138) | exact inner (by omega) _ _ (tgR_0 h83 h93 h108) (tgC_5 h128 h138 h153 q3) | exact inner (by omega) _ _ (tgR_1 h83) (tgC_0 h128 h138 h153) | exact inner (by omega) _ _ (tgR_1 h83) (tgC_1 h128) | exact inner (by omega) _ _ (tgR_1 h83) (tgC_3 h128 h138) | exact inner (by omega) _ _ (tgR_1 h83) (tgC_5 h128 h138 h153 q3) | exact inner (by omega) _ _ (tgR_2 h83 h93) (tgC_0 h128 h138 h153) | exact inner (by omega) _ _ (tgR_2 h83 h93) (tgC_1 h128) | exact inner (by omega) _ _ (tgR_2 h83 h93) (tgC_3 h128 h138) | exact inner (by omega) _ _ (tgR_2 h83 h93) (tgC_5 h128 h138 h153 q3) | exact inner (by omega) _ _ (tgR_4 h83 h93 h108 q1) (tgC_0 h128 h138 h153) | exact inner (by omega) _ _ (tgR_4 h83 h93 h108 q1) (tgC_1 h128) | exact inner (by omega) _ _ (tgR_4 h83 h93 h108 q1) (tgC_3 h128 h138) | exact inner (by omega) _ _ (tgR_4 h83 h93 h108 q1) (tgC_5 h128 h138 h153 q3)
  have no : ¬ okU (σ 1 s) s w r t → ∃ z : Int, some (vi 0) = some (vi z) ∧ QM σ σ z ∧ XuB σ s w r t σ z := fun h2 => ⟨0, rfl, ⟨fr.rf, hB, Or.inl rfl⟩, Or.inl ⟨rfl, tbK_rf _, h2⟩⟩
  refine ok_aload_n 0 rfl rfl rfl (ok_iload_n 1 rfl rfl rfl (ok_callVI (M' := M_Mo_isTable) (as := [_]) 2 rfl rfl ml_X12_111 (s_Mo_isTable_r) rfl rfl (Nat.le_of_ble_eq_true rfl) ⟨Nat.le_of_ble_eq_true rfl, Nat.le_of_ble_eq_true rfl⟩ rfl (Nat.le_of_ble_eq_true rfl) (fun σ' z1 a1 => ?_)))
  obtain ⟨hs_, a1⟩ := a1
  rw [hs_]; clear hs_ σ'
  refine ok_if_eq 3 51 rfl rfl rfl (fun h5 => ?_) (fun h5 => ?_)
  · refine ok_iconst 28 rfl rfl (by decide) (ok_zret 29 rfl rfl rfl (by first | omega | (simp [up_if]; omega) | (simp [up_if] at *; omega)) ?_)
    exact no (fun q => no1 a1 h5 ⟨q.1.1, q.1.2.1, by have := (hB.1 s q.1.1 q.1.2.1).1; have := q.1.2.2; omega⟩)
  · have hs : tabB σ s := yes1 a1 h5
    obtain ⟨s1, s2, s3⟩ := id hs
    obtain ⟨g1, g2, g3⟩ := hB.1 s s1 s2
    refine ok_iload 4 rfl rfl rfl (ok_callSI (M' := M_Mo_isSlot) (as := [_]) 5 rfl rfl ml_X12_103 (s_Mo_isSlot_r) ⟨Nat.le_of_ble_eq_true rfl, Nat.le_of_ble_eq_true rfl⟩ rfl (Nat.le_of_ble_eq_true rfl) (fun σ' z2 a2 => ?_))
    obtain ⟨hs_, a2⟩ := a2
    rw [hs_]; clear hs_ σ'
    refine ok_if_eq 6 51 rfl rfl rfl (fun h13 => ?_) (fun h13 => ?_)
    · refine ok_iconst 28 rfl rfl (by decide) (ok_zret 29 rfl rfl rfl (by first | omega | (simp [up_if]; omega) | (simp [up_if] at *; omega)) ?_)
      exact no (fun q => no1 a2 h13 q.2.1)
    · refine ok_iload_n 7 rfl rfl rfl (ok_i2l 8 rfl rfl (ok_lconst (w := 0) 9 rfl rfl rfl (by decide) (ok_ldc2 10 (5) rfl rfl kc_X12_229 (by decide) (ok_callSI (M' := M_Mo_isIn) (as := [_, _, _]) 11 rfl rfl ml_X12_99 (s_Mo_isIn_r) ⟨Nat.le_of_ble_eq_true rfl, Nat.le_of_ble_eq_true rfl⟩ rfl (Nat.le_of_ble_eq_true rfl) (fun σ' z3 a3 => ?_)))))
      obtain ⟨hs_, a3⟩ := a3
      rw [hs_]; clear hs_ σ'
      refine ok_if_eq 12 51 rfl rfl rfl (fun h25 => ?_) (fun h25 => ?_)
      · refine ok_iconst 28 rfl rfl (by decide) (ok_zret 29 rfl rfl rfl (by first | omega | (simp [up_if]; omega) | (simp [up_if] at *; omega)) ?_)
        exact no (fun q => no1 a3 h25 q.2.2.1)
      · refine ok_iload_n 13 rfl rfl rfl (ok_iconst 14 rfl rfl (by decide) (ok_icmp_le 15 53 rfl rfl rfl (fun h30 => ?_) (fun h30 => ?_)))
        · have t2 := yes1 a2 h13
          have t3 := yes1 a3 h25
          first | exact main hs t2 t3 (fun q => by omega) | exact main hs t2 t3 (fun _ => by have := yes1 a4 h48; omega)
        · refine ok_iload_n 16 rfl rfl rfl (ok_i2l 17 rfl rfl (ok_lconst (w := 0) 18 rfl rfl rfl (by decide) (ok_aload_n 19 rfl rfl rfl (ok_getR 20 rfl rfl fl_X12_7 rfl rfl (ok_iload_n 21 rfl rfl rfl (ok_iald 22 rfl rfl rfl (by first | omega | (simp [up_if]; omega) | (simp [up_if] at *; omega)) (ok_iconst 23 rfl rfl (by decide) (ok_isub 24 rfl rfl (by first | omega | (simp [up_if]; omega) | (simp [up_if] at *; omega)) (ok_i2l 25 rfl rfl (ok_callSI (M' := M_Mo_isIn) (as := [_, _, _]) 26 rfl rfl ml_X12_99 (s_Mo_isIn_r) ⟨Nat.le_of_ble_eq_true rfl, Nat.le_of_ble_eq_true rfl⟩ rfl (Nat.le_of_ble_eq_true rfl) (fun σ' z4 a4 => ?_)))))))))))
          obtain ⟨hs_, a4⟩ := a4
          rw [hs_]; clear hs_ σ'
          refine ok_if_ne 27 53 rfl rfl rfl (fun h48 => ?_) (fun h48 => ?_)
          · have t2 := yes1 a2 h13
            have t3 := yes1 a3 h25
            first | exact main hs t2 t3 (fun q => by omega) | exact main hs t2 t3 (fun _ => by have := yes1 a4 h48; omega)
          · refine ok_iconst 28 rfl rfl (by decide) (ok_zret 29 rfl rfl rfl (by first | omega | (simp [up_if]; omega) | (simp [up_if] at *; omega)) ?_)
            exact no (fun q => no1 a4 h48 (by have := q.2.2.2 (by omega); omega))
