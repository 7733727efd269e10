/-! PERMANENTS: sums over sets of columns, exactly -/
theorem bit_xp : ∀ s : Fin 256, ∀ j : Fin 8, bt (s.val : Int) (j.val : Int) = true → pc (ixor (s.val : Int) (ishl 1 (j.val : Int))) = pc (s.val : Int) - 1 ∧ sB (ixor (s.val : Int) (ishl 1 (j.val : Int))) (j.val : Int) = (s.val : Int) ∧ bt (ixor (s.val : Int) (ishl 1 (j.val : Int))) (j.val : Int) = false := by decide +kernel
theorem bitXp {s j : Int} (h1 : 0 ≤ s ∧ s < 256) (h2 : 0 ≤ j ∧ j < 8) (h : bt s j = true) : pc (ixor s (ishl 1 j)) = pc s - 1 ∧ sB (ixor s (ishl 1 j)) j = s ∧ bt (ixor s (ishl 1 j)) j = false := fin2 (P := fun s j => bt s j = true → pc (ixor s (ishl 1 j)) = pc s - 1 ∧ sB (ixor s (ishl 1 j)) j = s ∧ bt (ixor s (ishl 1 j)) j = false) bit_xp h1.1 h1.2 h2.1 h2.2 h
theorem pc_bd {s n : Int} (hn : 0 ≤ n ∧ n ≤ 8) (h : 0 ≤ s ∧ s < p2 n) : 0 ≤ pc s ∧ pc s ≤ n := by
  have b := bit2 hn
  have c := bitL (s := s) (n := n) ⟨h.1, by omega⟩ hn
  rcases (by omega : s < p2 n - 1 ∨ s = p2 n - 1) with q | q
  · have := c.1 q; omega
  · have := c.2.1 q; omega
theorem sm_mo {f : Int → Int} : ∀ {n m : Nat}, n ≤ m → (∀ k : Int, 0 ≤ k → k < m → 0 ≤ f k) → sm f n ≤ sm f m
  | n, 0, h, _ => by rw [show n = 0 by omega]; exact Int.le_refl _
  | n, m + 1, h, hf => by
    rcases (by omega : n = m + 1 ∨ n ≤ m) with q | q
    · rw [q]; exact Int.le_refl _
    · have a := sm_mo q (fun k x y => hf k x (by omega))
      have b := hf m (by omega) (by omega)
      show sm f n ≤ sm f m + f m
      omega
theorem sm_nx {f : Int → Int} {n : Nat} (h : ∀ k : Int, 0 ≤ k → k < n → 0 ≤ f k) : 0 ≤ sm f n := sm_mo (n := 0) (Nat.zero_le _) h
def PMk (n : Nat) (w : Int → Int → Int) : Nat → Int → Int
  | 0, _ => 1
  | k + 1, s => sm (fun j => if bt s j = true then w (k : Int) j * PMk n w k (ixor s (ishl 1 j)) else 0) n
def PMv (n : Int) (w : Int → Int → Int) (s : Int) : Int := PMk n.toNat w (pc s).toNat s
def PMt (n : Int) (w : Int → Int → Int) (s j : Int) : Int := if bt s j = true then w (pc s - 1) j * PMv n w (ixor s (ishl 1 j)) else 0
theorem PMv_0 (n : Int) (w : Int → Int → Int) : PMv n w 0 = 1 := by unfold PMv; rw [pc_0]; rfl
theorem PMv_eq {n : Int} {w : Int → Int → Int} {s : Int} (hn : 0 ≤ n ∧ n ≤ 8) (h : 1 ≤ s ∧ s < 256) : PMv n w s = sm (PMt n w s) n.toNat := by
  have p := pc1 (s := s) ⟨by omega, h.2⟩ (by omega)
  obtain ⟨m, hm⟩ : ∃ m : Nat, (pc s).toNat = m + 1 := ⟨(pc s).toNat - 1, by omega⟩
  unfold PMv
  rw [hm, PMk]
  refine sm_cg (fun j j0 jn => ?_)
  unfold PMt
  by_cases q : bt s j = true
  · rw [if_pos q, if_pos q]
    have x := bitXp (s := s) (j := j) ⟨by omega, h.2⟩ ⟨j0, by omega⟩ q
    unfold PMv
    rw [x.1, show (pc s - 1).toNat = m by omega, show pc s - 1 = (m : Int) by omega]
  · rw [if_neg q, if_neg q]
theorem PMk_nn {n : Nat} {w : Int → Int → Int} (hw : ∀ i j : Int, 0 ≤ i → i < n → 0 ≤ j → j < n → 0 ≤ w i j) : ∀ k : Nat, k ≤ n → ∀ s : Int, 0 ≤ PMk n w k s
  | 0, _, s => by show (0 : Int) ≤ 1; decide
  | k + 1, h, s => by
    rw [PMk]
    refine sm_nx (fun j j0 jn => ?_)
    split
    · exact Int.mul_nonneg (hw k j (by omega) (by omega) j0 jn) (PMk_nn hw k (by omega) _)
    · exact Int.le_refl _
theorem PMv_nn {n : Int} {w : Int → Int → Int} (hn : 0 ≤ n ∧ n ≤ 8) (hw : ∀ i j, 0 ≤ i → i < n → 0 ≤ j → j < n → 0 ≤ w i j) {s : Int} (h : 0 ≤ s ∧ s < p2 n) : 0 ≤ PMv n w s := by
  have p := pc_bd hn h
  exact PMk_nn (fun i j a b c d => hw i j a (by omega) c (by omega)) _ (by omega) s
theorem xb_lt {n s j : Int} (hn : 0 ≤ n ∧ n ≤ 8) (h : 0 ≤ s ∧ s < p2 n) (hj : 0 ≤ j ∧ j < 8) (hb : bt s j = true) : 0 ≤ ixor s (ishl 1 j) ∧ ixor s (ishl 1 j) < s := by
  have b := bit2 hn
  exact bitX ⟨h.1, by omega⟩ hj hb
theorem PMt_nn {n : Int} {w : Int → Int → Int} (hn : 0 ≤ n ∧ n ≤ 8) (hw : ∀ i j, 0 ≤ i → i < n → 0 ≤ j → j < n → 0 ≤ w i j) {s : Int} (h : 1 ≤ s ∧ s < p2 n) {j : Int} (j0 : 0 ≤ j) (jn : j < n) : 0 ≤ PMt n w s j := by
  have b := bit2 hn
  have p := pc_bd hn ⟨by omega, h.2⟩
  have p1 := pc1 (s := s) ⟨by omega, by omega⟩ (by omega)
  unfold PMt
  split
  · next q =>
    have x := xb_lt hn ⟨by omega, h.2⟩ ⟨j0, by omega⟩ q
    exact Int.mul_nonneg (hw _ j (by omega) (by omega) j0 jn) (PMv_nn hn hw ⟨x.1, by omega⟩)
  · exact Int.le_refl _
theorem PMk_cg {n : Nat} {w w' : Int → Int → Int} (e : ∀ i j : Int, 0 ≤ i → i < n → 0 ≤ j → j < n → w i j = w' i j) : ∀ k : Nat, k ≤ n → ∀ s : Int, PMk n w k s = PMk n w' k s
  | 0, _, s => rfl
  | k + 1, h, s => by
    rw [PMk, PMk]
    refine sm_cg (fun j j0 jn => ?_)
    rw [e k j (by omega) (by omega) j0 jn, PMk_cg e k (by omega)]
theorem PMv_cg {n : Int} {w w' : Int → Int → Int} (hn : 0 ≤ n ∧ n ≤ 8) (e : ∀ i j, 0 ≤ i → i < n → 0 ≤ j → j < n → w i j = w' i j) {s : Int} (h : 0 ≤ s ∧ s < p2 n) : PMv n w s = PMv n w' s := by
  have p := pc_bd hn h
  exact PMk_cg (fun i j a b c d => e i j a (by omega) c (by omega)) _ (by omega) s
/-- what the sums of all sets answer: beyond, or the whole -/
def pmA (n : Int) (w : Int → Int → Int) (z : Int) : Prop := (z = -2 ∧ ∃ s, 1 ≤ s ∧ s < p2 n ∧ 9223372036854775807 < PMv n w s) ∨ (z = PMv n w (p2 n - 1) ∧ ∀ s, 0 ≤ s → s < p2 n → PMv n w s ≤ 9223372036854775807)
theorem pmA_un {n : Int} {w w' : Int → Int → Int} {z z' : Int} (hn : 1 ≤ n ∧ n ≤ 8) (e : ∀ i j, 0 ≤ i → i < n → 0 ≤ j → j < n → w i j = w' i j) (h : pmA n w z) (h' : pmA n w' z') : z = z' := by
  have b := bit2 (n := n) ⟨by omega, hn.2⟩
  have c := fun s a1 a2 => PMv_cg (s := s) (n := n) ⟨by omega, hn.2⟩ e ⟨a1, a2⟩
  rcases h with ⟨a1, s, a2, a3, a4⟩ | ⟨a1, a2⟩ <;> rcases h' with ⟨b1, s', b2, b3, b4⟩ | ⟨b1, b2⟩
  · omega
  · have := b2 s (by omega) a3
    rw [c s (by omega) a3] at a4
    omega
  · have := a2 s' (by omega) b3
    rw [c s' (by omega) b3] at this
    omega
  · rw [a1, b1, c _ (by omega) (by omega)]
theorem t_Ch_multiplySet {σ : eS} {c : Nat} {s n : Int} (hs : nth shA c = some (1, 64, [])) (hn : 0 ≤ n ∧ n ≤ 8) (h1 : 1 ≤ s ∧ s < p2 n) (hc : ∀ k : Int, 0 ≤ k → k < 64 → 0 ≤ σ c k ∧ σ c k ≤ 799999992) (hv : ∀ k, 0 ≤ k → k < s → σ 18 k = PMv n (fun i j => σ c (i * 8 + j)) k) : MtL shA M_Ch_multiplySet [vr 16, vr c, vi s, vi n] σ (fun σ' z => σ' = σ ∧ ((z = -2 ∧ 9223372036854775807 < PMv n (fun i j => σ c (i * 8 + j)) s) ∨ (z = PMv n (fun i j => σ c (i * 8 + j)) s ∧ 0 ≤ z ∧ z ≤ 9223372036854775807))) := by
  refine Mt.of okM_Ch_multiplySet (Nat.le_of_ble_eq_true rfl) (fun hk hg => ?_)
  have b2 := bit2 hn
  have h2 : 1 ≤ s ∧ s < 256 := ⟨h1.1, by omega⟩
  obtain ⟨w, ew⟩ : ∃ w : Int → Int → Int, w = fun i j => σ c (i * 8 + j) := ⟨_, rfl⟩
  rw [← ew] at hv ⊢
  have hw : ∀ i j, 0 ≤ i → i < n → 0 ≤ j → j < n → 0 ≤ w i j := fun i j a b d e => by rw [ew]; exact (hc _ (by omega) (by omega)).1
  have p1 := pc_bd hn (s := s) ⟨by omega, h1.2⟩
  have p3 := pc1 (s := s) ⟨by omega, by omega⟩ (by omega)
  have tn : ∀ k : Int, 0 ≤ k → k < (n.toNat : Int) → 0 ≤ PMt n w s k := fun k a b => PMt_nn hn hw h1 a (by omega)
  rw [PMv_eq hn h2]
  refine ok_iload_n 0 rfl rfl rfl (ok_callSI (M' := M_Ji_bitCount) (as := [_]) 1 rfl rfl ml_X0_38 (s_Ji_bitCount) ⟨Nat.le_of_ble_eq_true rfl, Nat.le_of_ble_eq_true rfl⟩ rfl (Nat.le_of_ble_eq_true rfl) (fun σ' z hz => ?_))
  rw [hz.1, hz.2]
  clear hz z σ'
  rw [bcP (s := s) ⟨by omega, by omega⟩]
  refine ok_iconst 2 rfl rfl (by decide) (ok_isub 3 rfl rfl (by first | omega | (simp [up_if]; omega) | (simp [up_if] at *; omega)) (ok_ist4 4 rfl rfl rfl (ok_lconst (w := 0) 5 rfl rfl rfl (by decide) (ok_lst5 6 rfl rfl rfl (ok_iconst 7 rfl rfl (by decide) (ok_ist7 8 rfl rfl rfl ?_))))))
  refine lpO2 (fun (v j : Int) => [some (vr 16), some (vr c), some (vi s), some (vi n), some (vi (pc s - 1)), some (vl v), none, some (vi j), none, none, none]) (fun _ _ => σ) (fun v j => 0 ≤ j ∧ j ≤ n ∧ 0 ≤ v ∧ v ≤ 9223372036854775807 ∧ v = sm (PMt n w s) j.toNat) (fun _ j => (8 - j).toNat) ?_ 0 0 ⟨by omega, by omega, by omega, by omega, rfl⟩
  rintro v j ⟨j1, j2, v1, v2, v3⟩ ih
  have es := sm_s (PMt n w s) j1
  rw [← v3] at es
  refine ok_iload 9 rfl rfl rfl (ok_iload_n 10 rfl rfl rfl (ok_icmp_ge 11 96 rfl rfl rfl (fun h17 => ?_) (fun h17 => ?_)))
  · refine ok_lload 57 rfl rfl rfl (ok_lret 58 rfl rfl rfl ?_)
    exact ⟨_, rfl, rfl, Or.inr ⟨by rw [v3, show j = n by omega], v1, v2⟩⟩
  · have bz := b_nz (s := s) (j := j) ⟨by omega, by omega⟩ ⟨by omega, by omega⟩
    have cb := hc ((pc s - 1) * 8 + j) (by omega) (by omega)
    have wj : w (pc s - 1) j = σ c ((pc s - 1) * 8 + j) := by rw [ew]
    refine ok_aload_n 12 rfl rfl rfl (ok_iload 13 rfl rfl rfl (ok_bipush 14 rfl rfl (by decide) (by decide) (ok_imul 15 rfl rfl (by first | omega | (simp [up_if]; omega) | (simp [up_if] at *; omega)) (ok_iload 16 rfl rfl rfl (ok_iadd 17 rfl rfl (by first | omega | (simp [up_if]; omega) | (simp [up_if] at *; omega)) (ok_iald 18 rfl rfl hs (by first | omega | (simp [up_if]; omega) | (simp [up_if] at *; omega)) (ok_ist8 19 rfl rfl rfl (ok_iload_n 20 rfl rfl rfl (ok_iload 21 rfl rfl rfl (ok_ishr 22 rfl rfl (ok_iconst 23 rfl rfl (by decide) (ok_iand 24 rfl rfl (ok_if_eq 25 90 rfl rfl rfl (fun h38 => ?_) (fun h38 => ?_))))))))))))))
    · refine ok_inc7 55 rfl rfl rfl (by first | omega | (simp [up_if]; omega) | (simp [up_if] at *; omega)) (ok_goto 56 14 rfl rfl rfl ?_)
      have t0 : PMt n w s j = 0 := by
        unfold PMt
        by_cases q : bt s j = true
        · rw [if_pos q, wj]
          have : σ c ((pc s - 1) * 8 + j) = 0 := by
            have := bz.1.mpr q
            omega
          rw [this, Int.zero_mul]
        · rw [if_neg q]
      exact ok_fg [some (vr 16), some (vr c), some (vi s), some (vi n), some (vi (pc s - 1)), some (vl v), none, some (vi (j + 1)), none, none, none] ⟨rfl, rfl, rfl, rfl, rfl, rfl, rfl, trivial⟩ (ih v (j + 1) ⟨by omega, by omega, by omega, by omega, by rw [es, t0]; omega⟩ (by omega))
    · refine ok_iload 26 rfl rfl rfl (ok_if_le 27 90 rfl rfl rfl (fun h43 => ?_) (fun h43 => ?_))
      · refine ok_inc7 55 rfl rfl rfl (by first | omega | (simp [up_if]; omega) | (simp [up_if] at *; omega)) (ok_goto 56 14 rfl rfl rfl ?_)
        have t0 : PMt n w s j = 0 := by
          unfold PMt
          by_cases q : bt s j = true
          · rw [if_pos q, wj]
            have : σ c ((pc s - 1) * 8 + j) = 0 := by
              have := bz.1.mpr q
              omega
            rw [this, Int.zero_mul]
          · rw [if_neg q]
        exact ok_fg [some (vr 16), some (vr c), some (vi s), some (vi n), some (vi (pc s - 1)), some (vl v), none, some (vi (j + 1)), none, none, none] ⟨rfl, rfl, rfl, rfl, rfl, rfl, rfl, trivial⟩ (ih v (j + 1) ⟨by omega, by omega, by omega, by omega, by rw [es, t0]; omega⟩ (by omega))
      · have bb : bt s j = true := bz.1.mp (by omega)
        have x := bitX (s := s) (j := j) ⟨by omega, by omega⟩ ⟨by omega, by omega⟩ bb
        have w1 := hv _ x.1 x.2
        have w2 := PMv_nn hn hw (s := ixor s (ishl 1 j)) ⟨x.1, by omega⟩
        have tj : PMt n w s j = σ c ((pc s - 1) * 8 + j) * σ 18 (ixor s (ishl 1 j)) := by unfold PMt; rw [if_pos bb, wj, w1]
        rw [← w1] at w2
        refine ok_aload_n 28 rfl rfl rfl (ok_getR 29 rfl rfl fl_X0_15 rfl rfl (ok_iload_n 30 rfl rfl rfl (ok_iconst 31 rfl rfl (by decide) (ok_iload 32 rfl rfl rfl (ok_ishl 33 rfl rfl (ok_ixor 34 rfl rfl (ok_lald 35 rfl rfl rfl (by first | omega | (simp [up_if]; omega) | (simp [up_if] at *; omega)) (ok_lst9 36 rfl rfl rfl (ok_lload 37 rfl rfl rfl (ok_ldc2 38 (9223372036854775807) rfl rfl kc_X0_36 (by decide) (ok_lload 39 rfl rfl rfl (ok_lsub 40 rfl rfl (by first | omega | (simp [up_if]; omega) | (simp [up_if] at *; omega)) (ok_iload 41 rfl rfl rfl (ok_i2l 42 rfl rfl (ok_ldiv 43 rfl rfl (by first | omega | (simp [up_if]; omega) | (simp [up_if] at *; omega)) (by first | omega | (simp [up_if]; omega) | (simp [up_if] at *; omega)) (ok_lcmp_le 44 45 79 rfl rfl rfl rfl rfl (fun h71 => ?_) (fun h71 => ?_)))))))))))))))))
        · have m : σ c ((pc s - 1) * 8 + j) * σ 18 (ixor s (ishl 1 j)) ≤ 9223372036854775807 - v := mul_le_div (by omega) h71
          have m0 : 0 ≤ σ c ((pc s - 1) * 8 + j) * σ 18 (ixor s (ishl 1 j)) := Int.mul_nonneg (by omega) w2
          refine ok_lload 48 rfl rfl rfl (ok_iload 49 rfl rfl rfl (ok_i2l 50 rfl rfl (ok_lload 51 rfl rfl rfl (ok_lmul 52 rfl rfl (by first | omega | (simp [up_if]; omega) | (simp [up_if] at *; omega)) (ok_ladd 53 rfl rfl (by first | omega | (simp [up_if]; omega) | (simp [up_if] at *; omega)) (ok_lst5 54 rfl rfl rfl (ok_inc7 55 rfl rfl rfl (by first | omega | (simp [up_if]; omega) | (simp [up_if] at *; omega)) (ok_goto 56 14 rfl rfl rfl ?_))))))))
          exact ok_fg [some (vr 16), some (vr c), some (vi s), some (vi n), some (vi (pc s - 1)), some (vl _), none, some (vi (j + 1)), none, none, none] ⟨rfl, rfl, rfl, rfl, rfl, rfl, rfl, trivial⟩ (ih _ (j + 1) ⟨by omega, by omega, by omega, by omega, by rw [es, tj]⟩ (by omega))
        · refine ok_ldc2 46 (-2) rfl rfl kc_X0_67 (by decide) (ok_lret 47 rfl rfl rfl ?_)
          refine ⟨_, rfl, rfl, Or.inl ⟨rfl, ?_⟩⟩
          have mo := sm_mo (f := PMt n w s) (n := (j + 1).toNat) (m := n.toNat) (by omega) tn
          have hh : 9223372036854775807 - v < σ c ((pc s - 1) * 8 + j) * σ 18 (ixor s (ishl 1 j)) := by
            rcases (by omega : 9223372036854775807 - v < σ c ((pc s - 1) * 8 + j) * σ 18 (ixor s (ishl 1 j)) ∨ σ c ((pc s - 1) * 8 + j) * σ 18 (ixor s (ishl 1 j)) ≤ 9223372036854775807 - v) with q | q
            · exact q
            · rw [Int.mul_comm] at q
              have := Int.le_ediv_of_mul_le (by omega : 0 < σ c ((pc s - 1) * 8 + j)) q
              omega
          rw [es, tj] at mo
          omega
theorem t_Ch_multiplyAll {σ : eS} {c : Nat} {n : Int} (hs : nth shA c = some (1, 64, [])) (hn : 0 ≤ n ∧ n ≤ 8) (hc18 : c ≠ 18) (hc : ∀ k : Int, 0 ≤ k → k < 64 → 0 ≤ σ c k ∧ σ c k ≤ 799999992) : MtL shA M_Ch_multiplyAll [vr 16, vr c, vi n] σ (fun σ' z => fr (fun c _ => c = 18) σ σ' ∧ pmA n (fun i j => σ c (i * 8 + j)) z) := by
  refine Mt.of okM_Ch_multiplyAll (Nat.le_of_ble_eq_true rfl) (fun hk hg => ?_)
  have b2 := bit2 hn
  refine ok_aload_n 0 rfl rfl rfl (ok_getR 1 rfl rfl fl_X0_15 rfl rfl (ok_iconst 2 rfl rfl (by decide) (ok_lconst (w := 1) 3 rfl rfl rfl (by decide) (ok_last 4 rfl rfl rfl (by first | omega | (simp [up_if]; omega) | (simp [up_if] at *; omega)) (ok_iconst 5 rfl rfl (by decide) (ok_ist3 6 rfl rfl rfl ?_))))))
  refine lpO2 (fun (s : Int) (_ : eS) => [some (vr 16), some (vr c), some (vi n), some (vi s)]) (fun _ ρ => ρ) (fun s ρ => 1 ≤ s ∧ s ≤ p2 n ∧ fr (fun c _ => c = 18) σ ρ ∧ ∀ k, 0 ≤ k → k < s → ρ 18 k = PMv n (fun i j => σ c (i * 8 + j)) k ∧ PMv n (fun i j => σ c (i * 8 + j)) k ≤ 9223372036854775807) (fun s _ => (256 - s).toNat) ?_ 1 _ ⟨by omega, by omega, fr_up fr.rf rfl, fun k a b => by rw [show k = 0 by omega, up_same, PMv_0]; decide⟩
  rintro s ρ ⟨s1, s2, f, hv⟩ ih
  have ec : ∀ k, ρ c k = σ c k := fun k => f c k hc18
  have ew : (fun i j => ρ c (i * 8 + j)) = (fun i j => σ c (i * 8 + j)) := by funext i j; exact ec _
  refine ok_iload_n 7 rfl rfl rfl (ok_iconst 8 rfl rfl (by decide) (ok_iload_n 9 rfl rfl rfl (ok_ishl 10 rfl rfl ?_)))
  rw [b2.1]
  refine ok_icmp_ge 11 52 rfl rfl rfl (fun h13 => ?_) (fun h13 => ?_)
  · refine ok_aload_n 32 rfl rfl rfl (ok_getR 33 rfl rfl fl_X0_15 rfl rfl (ok_iconst 34 rfl rfl (by decide) (ok_iload_n 35 rfl rfl rfl (ok_ishl 36 rfl rfl (ok_iconst 37 rfl rfl (by decide) (ok_isub 38 rfl rfl (by first | omega | (simp [up_if]; omega) | (simp [up_if] at *; omega)) ?_))))))
    rw [b2.1]
    refine ok_lald 39 rfl rfl rfl (by first | omega | (simp [up_if]; omega) | (simp [up_if] at *; omega)) (ok_lret 40 rfl rfl rfl ?_)
    exact ⟨_, rfl, f, Or.inr ⟨(hv (p2 n - 1) (by omega) (by omega)).1, fun k a b => (hv k a (by omega)).2⟩⟩
  · refine ok_aload_n 12 rfl rfl rfl (ok_getR 13 rfl rfl fl_X0_15 rfl rfl (ok_iload_n 14 rfl rfl rfl (ok_aload_n 15 rfl rfl rfl (ok_aload_n 16 rfl rfl rfl (ok_iload_n 17 rfl rfl rfl (ok_iload_n 18 rfl rfl rfl (ok_callVL (M' := M_Ch_multiplySet) (as := [_, _, _]) 19 rfl rfl ml_X0_63 (t_Ch_multiplySet hs hn ⟨s1, by omega⟩ (fun k a b => by rw [ec]; exact hc k a b) (fun k a b => by rw [ew]; exact (hv k a b).1)) rfl rfl (Nat.le_of_ble_eq_true rfl) ⟨Nat.le_of_ble_eq_true rfl, Nat.le_of_ble_eq_true rfl⟩ rfl (Nat.le_of_ble_eq_true rfl) (fun σ' z hz => ?_))))))))
    obtain ⟨hs_, hz⟩ := hz
    rw [hs_]; clear hs_ σ'
    rw [ew] at hz
    refine ok_last 20 rfl rfl rfl (by first | omega | (simp [up_if]; omega) | (simp [up_if] at *; omega)) (ok_aload_n 21 rfl rfl rfl (ok_getR 22 rfl rfl fl_X0_15 rfl rfl (ok_iload_n 23 rfl rfl rfl (ok_lald 24 rfl rfl rfl (by first | omega | (simp [up_if]; omega) | (simp [up_if] at *; omega)) (ok_ldc2 25 (-2) rfl rfl kc_X0_67 (by decide) (ok_lcmp_ne 26 27 46 rfl rfl rfl rfl rfl (fun h38 => ?_) (fun h38 => ?_)))))))
    · refine ok_inc3 30 rfl rfl rfl (by first | omega | (simp [up_if]; omega) | (simp [up_if] at *; omega)) (ok_goto 31 9 rfl rfl rfl ?_)
      rw [up_same] at h38
      refine ih (s + 1) _ ⟨by omega, by omega, fr_up f rfl, up_to (fun k a b => ?_) ?_⟩ (by omega)
      · rw [up_nk _ _ _ _ (by omega)]; exact hv k a b
      · rw [up_same]
        rcases hz with q | q
        · exact absurd q.1 h38
        · exact ⟨q.1, by omega⟩
    · refine ok_ldc2 28 (-2) rfl rfl kc_X0_67 (by decide) (ok_lret 29 rfl rfl rfl ?_)
      rw [up_same] at h38
      refine ⟨_, rfl, fr_up f rfl, Or.inl ⟨rfl, s, s1, by omega, ?_⟩⟩
      rcases hz with q | q
      · exact q.2
      · omega
/-- the numbers that the reference's sums are made of -/
def smW (σ : eS) (s l b : Int) : Int → Int → Int := fun i j => if b = 0 then cB σ s i j else if l ≤ cB σ s i j then 1 else 0
theorem t_Mo_isSummed {σ : eS} {s l b : Int} (hB : iB1 σ) (ht : tabB σ s) : MtI shB M_Mo_isSummed [vr 0, vi s, vi l, vi b] σ (fun σ' z => fr rgU σ σ' ∧ ((z = 0 ∧ ∃ T, 1 ≤ T ∧ T < p2 (σ 1 s) ∧ 9223372036854775807 < PMv (σ 1 s) (smW σ s l b) T) ∨ (z = 1 ∧ ∀ T, 0 ≤ T → T < p2 (σ 1 s) → σ' 20 T = PMv (σ 1 s) (smW σ s l b) T ∧ PMv (σ 1 s) (smW σ s l b) T ≤ 9223372036854775807))) := by
  refine Mt.of okM_Mo_isSummed (Nat.le_of_ble_eq_true rfl) (fun hk hg => ?_)
  obtain ⟨u1, u2, u3⟩ := ht
  have tn := hB.1 s u1 u2
  have hn : 0 ≤ σ 1 s ∧ σ 1 s ≤ 8 := ⟨by omega, by omega⟩
  obtain ⟨z1, z2, z3, -⟩ := bit2 (n := σ 1 s) hn
  obtain ⟨w, ew⟩ : ∃ w, w = smW σ s l b := ⟨_, rfl⟩
  have hw0 : ∀ i j, 0 ≤ i → i < σ 1 s → 0 ≤ j → j < σ 1 s → 0 ≤ w i j ∧ w i j ≤ 99999999 := fun i j a1 a2 a3 a4 => by
    have := cB_bd hB ⟨u1, u2⟩ ⟨a1, a2⟩ ⟨a3, a4⟩
    rw [ew]; unfold smW
    split
    · exact this
    · split <;> omega
  have hw : ∀ i j, 0 ≤ i → i < σ 1 s → 0 ≤ j → j < σ 1 s → 0 ≤ w i j := fun i j a1 a2 a3 a4 => (hw0 i j a1 a2 a3 a4).1
  rw [← ew]
  refine ok_aload_n 0 rfl rfl rfl (ok_getR 1 rfl rfl fl_X12_72 rfl rfl (ok_iconst 2 rfl rfl (by decide) (ok_lconst (w := 1) 3 rfl rfl rfl (by decide) (ok_last 4 rfl rfl rfl (by first | omega | (simp [up_if]; omega) | (simp [up_if] at *; omega)) (ok_iconst 5 rfl rfl (by decide) (ok_ist4 6 rfl rfl rfl ?_))))))
  refine lpO2 (fun (T : Int) (_ : eS) => [some (vr 0), some (vi s), some (vi l), some (vi b), some (vi T), none, none, none, none, none, none]) (fun _ ρ => ρ) (fun T ρ => 1 ≤ T ∧ T ≤ p2 (σ 1 s) ∧ fr rgU σ ρ ∧ ∀ k, 0 ≤ k → k < T → ρ 20 k = PMv (σ 1 s) w k ∧ PMv (σ 1 s) w k ≤ 9223372036854775807) (fun T _ => (256 - T).toNat) ?_ 1 _ ⟨by omega, by omega, fr_up fr.rf (by simp [rgU]), fun k a c => by rw [show k = 0 by omega, up_same, PMv_0]; decide⟩
  rintro T ρ ⟨t1, t2, f, hs⟩ ih
  have e1 : ∀ k, ρ 1 k = σ 1 k := fun k => f 1 k (by simp [rgU])
  refine ok_iload 7 rfl rfl rfl (ok_iconst 8 rfl rfl (by decide) (ok_aload_n 9 rfl rfl rfl (ok_getR 10 rfl rfl fl_X12_7 rfl rfl (ok_iload_n 11 rfl rfl rfl (ok_iald 12 rfl rfl rfl (by first | omega | (simp [up_if]; omega) | (simp [up_if] at *; omega)) (ok_ishl 13 rfl rfl ?_))))))
  rw [e1, z1]
  refine ok_icmp_ge 14 178 rfl rfl rfl (fun h20 => ?_) (fun h20 => ?_)
  · refine ok_iconst 102 rfl rfl (by decide) (ok_zret 103 rfl rfl rfl (by first | omega | (simp [up_if]; omega) | (simp [up_if] at *; omega)) ?_)
    exact ⟨_, rfl, f, Or.inr ⟨rfl, fun k a c => hs k a (by omega)⟩⟩
  · refine ok_iload 15 rfl rfl rfl (ok_callSI (M' := M_Mo_bits) (as := [_]) 16 rfl rfl ml_X12_241 (s_Mo_bits ⟨by omega, by omega⟩) ⟨Nat.le_of_ble_eq_true rfl, Nat.le_of_ble_eq_true rfl⟩ rfl (Nat.le_of_ble_eq_true rfl) (fun σ' z hz => ?_))
    rw [hz.1, hz.2]
    clear hz z σ'
    have tl : T < p2 (σ 1 s) := by omega
    have b2 := pc_bd hn (s := T) ⟨by omega, tl⟩
    have b3 := pc1 (s := T) ⟨by omega, by omega⟩ (by omega)
    refine ok_iconst 17 rfl rfl (by decide) (ok_isub 18 rfl rfl (by first | omega | (simp [up_if]; omega) | (simp [up_if] at *; omega)) (ok_ist5 19 rfl rfl rfl (ok_aload_n 20 rfl rfl rfl (ok_getR 21 rfl rfl fl_X12_72 rfl rfl (ok_iload 22 rfl rfl rfl (ok_lconst (w := 0) 23 rfl rfl rfl (by decide) (ok_last 24 rfl rfl rfl (by first | omega | (simp [up_if]; omega) | (simp [up_if] at *; omega)) (ok_iconst 25 rfl rfl (by decide) (ok_ist6 26 rfl rfl rfl ?_)))))))))
    have pe := PMv_eq (w := w) hn (s := T) ⟨t1, by omega⟩
    have tnn : ∀ k : Int, 0 ≤ k → k < ((σ 1 s).toNat : Int) → 0 ≤ PMt (σ 1 s) w T k := fun k a c => PMt_nn hn hw ⟨t1, tl⟩ a (by omega)
    refine lpO2 (fun (j : Int) (_ : eS) => [some (vr 0), some (vi s), some (vi l), some (vi b), some (vi T), some (vi (pc T - 1)), some (vi j), none, none, none, none]) (fun _ ρ => ρ) (fun j ρ => 0 ≤ j ∧ j ≤ σ 1 s ∧ fr rgU σ ρ ∧ (∀ k, 0 ≤ k → k < T → ρ 20 k = PMv (σ 1 s) w k ∧ PMv (σ 1 s) w k ≤ 9223372036854775807) ∧ ρ 20 T = sm (PMt (σ 1 s) w T) j.toNat ∧ ρ 20 T ≤ 9223372036854775807) (fun j _ => (8 - j).toNat) ?_ 0 _ ⟨by omega, by omega, fr_up f (by simp [rgU]), fun k a c => ?_, by rw [up_same]; rfl, by rw [up_same]; decide⟩
    rotate_left
    · rw [up_nk _ _ _ _ (by omega)]; exact hs k a c
    clear hs f e1
    rintro j ρ ⟨j1, j2, f, hs, h20, hmx⟩ ih2
    have e1 : ∀ k, ρ 1 k = σ 1 k := fun k => f 1 k (by simp [rgU])
    have e1s := e1 s
    have hB' : iB1 ρ := iB1_frS hB f (fun c k q => by simp only [rgU]; omega)
    have tk : tbK σ ρ := tbK.of f (fun k => by simp [rgU])
    have es := sm_s (PMt (σ 1 s) w T) j1
    rw [← h20] at es
    have h0 : 0 ≤ ρ 20 T := by rw [h20]; exact sm_nx (fun k a c => tnn k a (by omega))
    have t166 : ∀ (τ : eS) (x y : Option eV), j < σ 1 s → fr rgU σ τ → (∀ k, 0 ≤ k → k < T → τ 20 k = ρ 20 k) → τ 20 T = sm (PMt (σ 1 s) w T) (j + 1).toNat → τ 20 T ≤ 9223372036854775807 → Ok shB M_Mo_isSummed 166 [some (vr 0), some (vi s), some (vi l), some (vi b), some (vi T), some (vi (pc T - 1)), some (vi j), x, none, y, none] [] τ (fun σ' v => ∃ z, v = some (vi z) ∧ fr rgU σ σ' ∧ ((z = 0 ∧ ∃ T, 1 ≤ T ∧ T < p2 (σ 1 s) ∧ 9223372036854775807 < PMv (σ 1 s) w T) ∨ (z = 1 ∧ ∀ T, 0 ≤ T → T < p2 (σ 1 s) → σ' 20 T = PMv (σ 1 s) w T ∧ PMv (σ 1 s) w T ≤ 9223372036854775807))) := by
      intro τ x y jl g hg hg2 hg3
      refine ok_inc6 98 rfl rfl rfl (by first | omega | (simp [up_if]; omega) | (simp [up_if] at *; omega)) (ok_goto 99 43 rfl rfl rfl ?_)
      exact ok_fg [some (vr 0), some (vi s), some (vi l), some (vi b), some (vi T), some (vi (pc T - 1)), some (vi (j + 1)), none, none, none, none] ⟨rfl, rfl, rfl, rfl, rfl, rfl, rfl, trivial⟩ (ih2 (j + 1) τ ⟨by omega, by omega, g, fun k a c => by rw [hg k a c]; exact hs k a c, hg2, hg3⟩ (by omega))
    have t106 : ∀ v : Int, j < σ 1 s → bt T j = true → v = w (pc T - 1) j → Ok shB M_Mo_isSummed 106 [some (vr 0), some (vi s), some (vi l), some (vi b), some (vi T), some (vi (pc T - 1)), some (vi j), none, none, none, none] [vl v] ρ (fun σ' v => ∃ z, v = some (vi z) ∧ fr rgU σ σ' ∧ ((z = 0 ∧ ∃ T, 1 ≤ T ∧ T < p2 (σ 1 s) ∧ 9223372036854775807 < PMv (σ 1 s) w T) ∨ (z = 1 ∧ ∀ T, 0 ≤ T → T < p2 (σ 1 s) → σ' 20 T = PMv (σ 1 s) w T ∧ PMv (σ 1 s) w T ≤ 9223372036854775807))) := by
      intro v jl hbt ev
      have vb := hw0 (pc T - 1) j (by omega) (by omega) j1 jl
      rw [← ev] at vb
      have hx := bitX (s := T) (j := j) (by omega) (by omega) hbt
      have hx1 := (hs _ hx.1 hx.2).1
      have hx2 := PMv_nn hn hw (s := ixor T (ishl 1 j)) ⟨hx.1, by omega⟩
      have hx3 := (hs _ hx.1 hx.2).2
      have tj : PMt (σ 1 s) w T j = v * ρ 20 (ixor T (ishl 1 j)) := by unfold PMt; rw [if_pos hbt, ← ev, hx1]
      rw [← hx1] at hx2 hx3
      rw [tj] at es
      have t151 : v * ρ 20 (ixor T (ishl 1 j)) ≤ 9223372036854775807 - ρ 20 T → Ok shB M_Mo_isSummed 151 [some (vr 0), some (vi s), some (vi l), some (vi b), some (vi T), some (vi (pc T - 1)), some (vi j), some (vl v), none, some (vl (ρ 20 (ixor T (ishl 1 j)))), none] [] ρ (fun σ' v => ∃ z, v = some (vi z) ∧ fr rgU σ σ' ∧ ((z = 0 ∧ ∃ T, 1 ≤ T ∧ T < p2 (σ 1 s) ∧ 9223372036854775807 < PMv (σ 1 s) w T) ∨ (z = 1 ∧ ∀ T, 0 ≤ T → T < p2 (σ 1 s) → σ' 20 T = PMv (σ 1 s) w T ∧ PMv (σ 1 s) w T ≤ 9223372036854775807))) := by
        intro hm
        have hm0 : 0 ≤ v * ρ 20 (ixor T (ishl 1 j)) := Int.mul_nonneg vb.1 hx2
        refine ok_aload_n 88 rfl rfl rfl (ok_getR 89 rfl rfl fl_X12_72 rfl rfl (ok_iload 90 rfl rfl rfl (ok_dup2 91 rfl rfl ⟨rfl, rfl⟩ (ok_lald 92 rfl rfl rfl (by first | omega | (simp [up_if]; omega) | (simp [up_if] at *; omega)) (ok_lload 93 rfl rfl rfl (ok_lload 94 rfl rfl rfl (ok_lmul 95 rfl rfl (by first | omega | (simp [up_if]; omega) | (simp [up_if] at *; omega)) (ok_ladd 96 rfl rfl (by first | omega | (simp [up_if]; omega) | (simp [up_if] at *; omega)) (ok_last 97 rfl rfl rfl (by first | omega | (simp [up_if]; omega) | (simp [up_if] at *; omega)) ?_)))))))))
        exact t166 _ _ _ jl (fr_up f (by simp [rgU])) (fun k a c => up_nk _ _ _ _ (by omega)) (by rw [up_same, es]) (by rw [up_same]; omega)
      refine ok_lst7 61 rfl rfl rfl (ok_aload_n 62 rfl rfl rfl (ok_getR 63 rfl rfl fl_X12_72 rfl rfl (ok_iload 64 rfl rfl rfl (ok_iconst 65 rfl rfl (by decide) (ok_iload 66 rfl rfl rfl (ok_ishl 67 rfl rfl (ok_ixor 68 rfl rfl (ok_lald 69 rfl rfl rfl (by first | omega | (simp [up_if]; omega) | (simp [up_if] at *; omega)) (ok_lst9 70 rfl rfl rfl (ok_lload 71 rfl rfl rfl (ok_lconst (w := 0) 72 rfl rfl rfl (by decide) (ok_lcmp_le 73 74 151 rfl rfl rfl rfl rfl (fun h125 => ?_) (fun h125 => ?_)))))))))))))
      · refine t151 ?_
        first
          | (rw [show v = 0 by omega, Int.zero_mul]; omega)
          | exact mul_le_div (by omega) (by omega)
      · refine ok_lload 75 rfl rfl rfl (ok_ldc2 76 (9223372036854775807) rfl rfl kc_X12_239 (by decide) (ok_aload_n 77 rfl rfl rfl (ok_getR 78 rfl rfl fl_X12_72 rfl rfl (ok_iload 79 rfl rfl rfl (ok_lald 80 rfl rfl rfl (by first | omega | (simp [up_if]; omega) | (simp [up_if] at *; omega)) (ok_lsub 81 rfl rfl (by first | omega | (simp [up_if]; omega) | (simp [up_if] at *; omega)) (ok_lload 82 rfl rfl rfl (ok_ldiv 83 rfl rfl (by first | omega | (simp [up_if]; omega) | (simp [up_if] at *; omega)) (by first | omega | (simp [up_if]; omega) | (simp [up_if] at *; omega)) (ok_lcmp_le 84 85 151 rfl rfl rfl rfl rfl (fun h145 => ?_) (fun h145 => ?_))))))))))
        · refine t151 ?_
          first
            | (rw [show v = 0 by omega, Int.zero_mul]; omega)
            | exact mul_le_div (by omega) (by omega)
        · refine ok_iconst 86 rfl rfl (by decide) (ok_zret 87 rfl rfl rfl (by first | omega | (simp [up_if]; omega) | (simp [up_if] at *; omega)) ?_)
          refine ⟨_, rfl, f, Or.inl ⟨rfl, T, t1, tl, ?_⟩⟩
          have mo := sm_mo (f := PMt (σ 1 s) w T) (n := (j + 1).toNat) (m := (σ 1 s).toNat) (by omega) tnn
          have hh : 9223372036854775807 - ρ 20 T < v * ρ 20 (ixor T (ishl 1 j)) := by
            rcases (by omega : 9223372036854775807 - ρ 20 T < v * ρ 20 (ixor T (ishl 1 j)) ∨ v * ρ 20 (ixor T (ishl 1 j)) ≤ 9223372036854775807 - ρ 20 T) with q | q
            · exact q
            · rw [Int.mul_comm] at q
              have := Int.le_ediv_of_mul_le (by omega : 0 < v) q
              omega
          rw [es] at mo
          rw [pe]
          omega
    refine ok_iload 27 rfl rfl rfl (ok_aload_n 28 rfl rfl rfl (ok_getR 29 rfl rfl fl_X12_7 rfl rfl (ok_iload_n 30 rfl rfl rfl (ok_iald 31 rfl rfl rfl (by first | omega | (simp [up_if]; omega) | (simp [up_if] at *; omega)) (ok_icmp_ge 32 172 rfl rfl rfl (fun h51 => ?_) (fun h51 => ?_))))))
    · refine ok_inc4 100 rfl rfl rfl (by first | omega | (simp [up_if]; omega) | (simp [up_if] at *; omega)) (ok_goto 101 10 rfl rfl rfl ?_)
      exact ok_fg [some (vr 0), some (vi s), some (vi l), some (vi b), some (vi (T + 1)), none, none, none, none, none, none] ⟨rfl, rfl, rfl, rfl, rfl, trivial⟩ (ih (T + 1) ρ ⟨by omega, by omega, f, up_to hs ⟨by rw [h20, show j = σ 1 s by omega, pe], by rw [pe, show (σ 1 s).toNat = j.toNat by omega, ← h20]; exact hmx⟩⟩ (by omega))
    · refine ok_iload 33 rfl rfl rfl (ok_iload 34 rfl rfl rfl (ok_ishr 35 rfl rfl (ok_iconst 36 rfl rfl (by decide) (ok_iand 37 rfl rfl ?_))))
      have hbg := b_nz (s := T) (j := j) ⟨by omega, by omega⟩ ⟨by omega, by omega⟩
      refine ok_if_ne 38 67 rfl rfl rfl (fun h61 => ?_) (fun h61 => ?_)
      · have hbt : bt T j = true := hbg.1.mp h61
        have jl : j < σ 1 s := by have := e1 s; omega
        refine ok_iload_n 40 rfl rfl rfl (ok_if_eq 41 96 rfl rfl rfl (fun h68 => ?_) (fun h68 => ?_))
        · refine ok_aload_n 55 rfl rfl rfl (ok_iload_n 56 rfl rfl rfl (ok_iload 57 rfl rfl rfl (ok_iload 58 rfl rfl rfl (ok_callVI (M' := M_Mo_at) (as := [_, _, _]) 59 rfl rfl ml_X12_107 (s_Mo_at hB' ⟨u1, u2⟩ ⟨by omega, by rw [e1]; omega⟩ ⟨by omega, by rw [e1]; omega⟩) rfl rfl (Nat.le_of_ble_eq_true rfl) ⟨Nat.le_of_ble_eq_true rfl, Nat.le_of_ble_eq_true rfl⟩ rfl (Nat.le_of_ble_eq_true rfl) (fun σ' z hz => ?_)))))
          rw [hz.1, hz.2, cB_cg tk]; clear hz z σ'
          refine ok_i2l 60 rfl rfl ?_
          refine t106 _ jl hbt ?_
          rw [ew]; unfold smW
          first
            | rw [if_pos (by omega)]
            | (rw [if_neg (by omega), if_pos (by omega), hz]; rfl)
            | (rw [if_neg (by omega), if_neg (by omega), hz]; rfl)
        · refine ok_aload_n 42 rfl rfl rfl (ok_iload_n 43 rfl rfl rfl (ok_iload 44 rfl rfl rfl (ok_iload 45 rfl rfl rfl (ok_callVI (M' := M_Mo_at) (as := [_, _, _]) 46 rfl rfl ml_X12_107 (s_Mo_at hB' ⟨u1, u2⟩ ⟨by omega, by rw [e1]; omega⟩ ⟨by omega, by rw [e1]; omega⟩) rfl rfl (Nat.le_of_ble_eq_true rfl) ⟨Nat.le_of_ble_eq_true rfl, Nat.le_of_ble_eq_true rfl⟩ rfl (Nat.le_of_ble_eq_true rfl) (fun σ' z hz => ?_)))))
          rw [hz.1, hz.2, cB_cg tk]; clear hz z σ'
          refine ok_iload_n 47 rfl rfl rfl (ok_icmp_lt 48 88 rfl rfl rfl (fun h81 => ?_) (fun h81 => ?_))
          · refine ok_iconst 51 rfl rfl (by decide) (ok_callSI (M' := M_Mo_one) (as := [_]) 52 rfl rfl ml_X12_192 (s_Mo_one) ⟨Nat.le_of_ble_eq_true rfl, Nat.le_of_ble_eq_true rfl⟩ rfl (Nat.le_of_ble_eq_true rfl) (fun σ' z hz => ?_))
            obtain ⟨hs_, hz⟩ := hz
            rw [hs_]; clear hs_ σ'
            refine ok_i2l 53 rfl rfl (ok_goto 54 106 rfl rfl rfl ?_)
            refine t106 _ jl hbt ?_
            rw [ew]; unfold smW
            first
              | rw [if_pos (by omega)]
              | (rw [if_neg (by omega), if_pos (by omega), hz]; rfl)
              | (rw [if_neg (by omega), if_neg (by omega), hz]; rfl)
          · refine ok_iconst 49 rfl rfl (by decide) (ok_goto 50 89 rfl rfl rfl (ok_callSI (M' := M_Mo_one) (as := [_]) 52 rfl rfl ml_X12_192 (s_Mo_one) ⟨Nat.le_of_ble_eq_true rfl, Nat.le_of_ble_eq_true rfl⟩ rfl (Nat.le_of_ble_eq_true rfl) (fun σ' z hz => ?_)))
            obtain ⟨hs_, hz⟩ := hz
            rw [hs_]; clear hs_ σ'
            refine ok_i2l 53 rfl rfl (ok_goto 54 106 rfl rfl rfl ?_)
            refine t106 _ jl hbt ?_
            rw [ew]; unfold smW
            first
              | rw [if_pos (by omega)]
              | (rw [if_neg (by omega), if_pos (by omega), hz]; rfl)
              | (rw [if_neg (by omega), if_neg (by omega), hz]; rfl)
      · refine ok_goto 39 166 rfl rfl rfl ?_
        have t0 : PMt (σ 1 s) w T j = 0 := by unfold PMt; rw [hbg.2.mp h61]; rfl
        exact t166 ρ none none (by have := e1 s; omega) f (fun k a c => rfl) (by rw [es, t0]; omega) hmx
