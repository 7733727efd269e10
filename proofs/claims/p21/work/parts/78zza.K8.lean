/-! THE PARTS KEPT, asked: the reference -/
theorem wB_nn {σ : eS} (h : iK σ) : ∀ q, 0 ≤ q → q < σ 0 27 → 0 ≤ wB σ q := fun q a b => by
  have := h.2.2.2.2.2.2.1.1 q a b
  unfold wB
  omega
theorem wB_sum {σ : eS} (h : iK σ) : sm (wB σ) (σ 0 27).toNat = σ 0 29 := h.2.2.2.2.2.2.1.2
theorem t_Mo_weight {σ : eS} {k w : Int} (h : iK σ) : MtI shB M_Mo_weight [vr 0, vi k, vi w] σ (fun σ' z => σ' = σ ∧ wtS (σ 0 27) (σ 0 29) (wB σ) k w z) := by
  refine Mt.of okM_Mo_weight (Nat.le_of_ble_eq_true rfl) (fun hk hg => ?_)
  obtain ⟨h1, h2, h3, h4, h5, h6, -⟩ := id h
  have e : wB σ k = σ 12 k := rfl
  refine ok_aload_n 0 rfl rfl rfl (ok_iload_n 1 rfl rfl rfl (ok_callVI (M' := M_Mo_isPartThere) (as := [_]) 2 rfl rfl ml_X12_300 (s_Mo_isPartThere h) rfl rfl (Nat.le_of_ble_eq_true rfl) ⟨Nat.le_of_ble_eq_true rfl, Nat.le_of_ble_eq_true rfl⟩ rfl (Nat.le_of_ble_eq_true rfl) (fun σ' z1 a1 => ?_)))
  obtain ⟨hs_, a1⟩ := a1
  rw [hs_]; clear hs_ σ'
  refine ok_if_eq 3 20 rfl rfl rfl (fun h5 => ?_) (fun h5 => ?_)
  · refine ok_iconst 10 rfl rfl (by decide) (ok_iret 11 rfl rfl rfl ?_)
    exact ⟨_, rfl, rfl, by unfold wtS; rw [if_neg (by omega)]⟩
  · refine ok_iload_n 4 rfl rfl rfl (ok_i2l 5 rfl rfl (ok_lconst (w := 0) 6 rfl rfl rfl (by decide) (ok_ldc2 7 (2) rfl rfl kc_X12_306 (by decide) (ok_callSI (M' := M_Mo_isIn) (as := [_, _, _]) 8 rfl rfl ml_X12_99 (s_Mo_isIn_r) ⟨Nat.le_of_ble_eq_true rfl, Nat.le_of_ble_eq_true rfl⟩ rfl (Nat.le_of_ble_eq_true rfl) (fun σ' z2 a2 => ?_)))))
    obtain ⟨hs_, a2⟩ := a2
    rw [hs_]; clear hs_ σ'
    refine ok_if_ne 9 22 rfl rfl rfl (fun h17 => ?_) (fun h17 => ?_)
    · have hk := yes1 a1 h5
      obtain ⟨w1, w2⟩ := wt_le h hk.1 hk.2
      obtain ⟨c1, c2⟩ := gcd_pos (a := σ 12 k) (b := σ 0 29) (by omega)
      have gc : (Int.gcd (σ 0 29) (wB σ k) : Int) = (Int.gcd (σ 12 k) (σ 0 29) : Int) := by rw [e, Int.gcd_comm]
      refine ok_aload_n 12 rfl rfl rfl (ok_getR 13 rfl rfl fl_X12_48 rfl rfl (ok_iload_n 14 rfl rfl rfl (ok_iald 15 rfl rfl rfl (by first | omega | (simp [up_if]; omega) | (simp [up_if] at *; omega)) (ok_i2l 16 rfl rfl (ok_aload_n 17 rfl rfl rfl (ok_getI 18 rfl rfl fl_X12_279 rfl rfl (Or.inl rfl) (ok_i2l 19 rfl rfl (ok_callSL (M' := M_Mo_common) (as := [_, _]) 20 rfl rfl ml_X12_89 (s_Mo_common (by omega) (by omega)) ⟨Nat.le_of_ble_eq_true rfl, Nat.le_of_ble_eq_true rfl⟩ rfl (Nat.le_of_ble_eq_true rfl) (fun σ' z hz => ?_)))))))))
      rw [hz.1, hz.2]
      clear hz z σ'
      refine ok_l2i 21 rfl rfl (by first | omega | (simp [up_if]; omega) | (simp [up_if] at *; omega)) (ok_ist3 22 rfl rfl rfl (ok_iload_n 23 rfl rfl rfl (ok_if_ne 24 52 rfl rfl rfl (fun h40 => ?_) (fun h40 => ?_))))
      · refine ok_iload_n 30 rfl rfl rfl (ok_iconst 31 rfl rfl (by decide) (ok_icmp_ne 32 68 rfl rfl rfl (fun h54 => ?_) (fun h54 => ?_)))
        · refine ok_aload_n 40 rfl rfl rfl (ok_getI 41 rfl rfl fl_X12_279 rfl rfl (Or.inl rfl) (ok_iload_n 42 rfl rfl rfl (ok_idiv 43 rfl rfl (by omega) (by omega) (ok_iret 44 rfl rfl rfl ?_))))
          refine ⟨_, rfl, rfl, ?_⟩
          unfold wtS
          rw [if_pos (by omega), gc]
          first
            | (rw [if_pos (by omega)]; rfl)
            | (rw [if_neg (by omega), if_pos (by omega)]; rfl)
            | (rw [if_neg (by omega), if_neg (by omega)])
        · refine ok_aload_n 33 rfl rfl rfl (ok_getR 34 rfl rfl fl_X12_48 rfl rfl (ok_iload_n 35 rfl rfl rfl (ok_iald 36 rfl rfl rfl (by first | omega | (simp [up_if]; omega) | (simp [up_if] at *; omega)) (ok_iload_n 37 rfl rfl rfl (ok_idiv 38 rfl rfl (by omega) (by omega) (ok_goto 39 74 rfl rfl rfl (ok_iret 44 rfl rfl rfl ?_)))))))
          refine ⟨_, rfl, rfl, ?_⟩
          unfold wtS
          rw [if_pos (by omega), gc]
          first
            | (rw [if_pos (by omega)]; rfl)
            | (rw [if_neg (by omega), if_pos (by omega)]; rfl)
            | (rw [if_neg (by omega), if_neg (by omega)])
      · refine ok_aload_n 25 rfl rfl rfl (ok_getR 26 rfl rfl fl_X12_48 rfl rfl (ok_iload_n 27 rfl rfl rfl (ok_iald 28 rfl rfl rfl (by first | omega | (simp [up_if]; omega) | (simp [up_if] at *; omega)) (ok_goto 29 74 rfl rfl rfl (ok_iret 44 rfl rfl rfl ?_)))))
        refine ⟨_, rfl, rfl, ?_⟩
        unfold wtS
        rw [if_pos (by omega), gc]
        first
          | (rw [if_pos (by omega)]; rfl)
          | (rw [if_neg (by omega), if_pos (by omega)]; rfl)
          | (rw [if_neg (by omega), if_neg (by omega)])
    · refine ok_iconst 10 rfl rfl (by decide) (ok_iret 11 rfl rfl rfl ?_)
      exact ⟨_, rfl, rfl, by unfold wtS; rw [if_neg (by omega)]⟩
theorem t_Mo_draw {σ : eS} {r : Int} (h : iK σ) : MtI shB M_Mo_draw [vr 0, vi r] σ (fun σ' z => σ' = σ ∧ drS (σ 0 27) (wB σ) r z) := by
  refine Mt.of okM_Mo_draw (Nat.le_of_ble_eq_true rfl) (fun hk hg => ?_)
  obtain ⟨h1, h2, h3, h4, h5, h6, -⟩ := id h
  have ws := wB_sum h
  refine ok_aload_n 0 rfl rfl rfl (ok_getI 1 rfl rfl fl_X12_273 rfl rfl (Or.inl rfl) (ok_if_eq 2 23 rfl rfl rfl (fun h4 => ?_) (fun h4 => ?_)))
  · refine ok_iconst 13 rfl rfl (by decide) (ok_iret 14 rfl rfl rfl ?_)
    exact ⟨_, rfl, rfl, Or.inl ⟨rfl, by rw [show σ 0 27 = 0 by omega]; show ¬ (0 ≤ r ∧ r < 0); omega⟩⟩
  · refine ok_iload_n 3 rfl rfl rfl (ok_i2l 4 rfl rfl (ok_lconst (w := 0) 5 rfl rfl rfl (by decide) (ok_aload_n 6 rfl rfl rfl (ok_getI 7 rfl rfl fl_X12_279 rfl rfl (Or.inl rfl) (ok_iconst 8 rfl rfl (by decide) (ok_isub 9 rfl rfl (by first | omega | (simp [up_if]; omega) | (simp [up_if] at *; omega)) (ok_i2l 10 rfl rfl (ok_callSI (M' := M_Mo_isIn) (as := [_, _, _]) 11 rfl rfl ml_X12_99 (s_Mo_isIn_r) ⟨Nat.le_of_ble_eq_true rfl, Nat.le_of_ble_eq_true rfl⟩ rfl (Nat.le_of_ble_eq_true rfl) (fun σ' z1 a1 => ?_)))))))))
    obtain ⟨hs_, a1⟩ := a1
    rw [hs_]; clear hs_ σ'
    refine ok_if_ne 12 25 rfl rfl rfl (fun h20 => ?_) (fun h20 => ?_)
    · refine ok_iconst 15 rfl rfl (by decide) (ok_ist2 16 rfl rfl rfl (ok_iload_n 17 rfl rfl rfl (ok_ist3 18 rfl rfl rfl ?_)))
      have hr := yes1 a1 h20
      refine lpO2 (fun k l : Int => [some (vr 0), some (vi r), some (vi k), some (vi l)]) (fun _ _ => σ) (fun k l => 0 ≤ k ∧ k < σ 0 27 ∧ 0 ≤ l ∧ l = r - sm (wB σ) k.toNat) (fun k _ => (64 - k).toNat) ?_ 0 r ⟨by omega, by omega, by omega, by show r = r - 0; omega⟩
      rintro k l ⟨k1, k2, k3, k4⟩ ih
      obtain ⟨w1, w2⟩ := wt_le h k1 k2
      have w3 : 0 ≤ sm (wB σ) k.toNat := (wt_sum h k1 (by omega)).1
      have e : sm (wB σ) (k + 1).toNat = sm (wB σ) k.toNat + σ 12 k := sm_s (wB σ) k1
      have last : k + 1 = σ 0 27 → sm (wB σ) (k + 1).toNat = σ 0 29 := fun q => by rw [q]; exact ws
      refine ok_iload_n 19 rfl rfl rfl (ok_aload_n 20 rfl rfl rfl (ok_getR 21 rfl rfl fl_X12_48 rfl rfl (ok_iload_n 22 rfl rfl rfl (ok_iald 23 rfl rfl rfl (by first | omega | (simp [up_if]; omega) | (simp [up_if] at *; omega)) (ok_icmp_lt 24 54 rfl rfl rfl (fun h36 => ?_) (fun h36 => ?_))))))
      · refine ok_iload_n 34 rfl rfl rfl (ok_iret 35 rfl rfl rfl ?_)
        exact ⟨_, rfl, rfl, Or.inr ⟨⟨k1, k2⟩, by omega, by omega⟩⟩
      · refine ok_iload_n 25 rfl rfl rfl (ok_aload_n 26 rfl rfl rfl (ok_getR 27 rfl rfl fl_X12_48 rfl rfl (ok_iload_n 28 rfl rfl rfl (ok_iald 29 rfl rfl rfl (by first | omega | (simp [up_if]; omega) | (simp [up_if] at *; omega)) (ok_isub 30 rfl rfl (by first | omega | (simp [up_if]; omega) | (simp [up_if] at *; omega)) (ok_ist3 31 rfl rfl rfl (ok_inc2 32 rfl rfl rfl (by first | omega | (simp [up_if]; omega) | (simp [up_if] at *; omega)) (ok_goto 33 29 rfl rfl rfl ?_))))))))
        exact ih (k + 1) _ ⟨by omega, by rcases (show k + 1 = σ 0 27 ∨ k + 1 < σ 0 27 by omega) with q | q; have := last q; omega; exact q, by omega, by omega⟩ (by omega)
    · refine ok_iconst 13 rfl rfl (by decide) (ok_iret 14 rfl rfl rfl ?_)
      exact ⟨_, rfl, rfl, Or.inl ⟨rfl, by omega⟩⟩
theorem t_Mo_together {σ : eS} {r j : Int} (h : iK σ) (hr : 0 ≤ r ∧ r < σ 0 28) : MtI shB M_Mo_together [vr 0, vi r, vi j] σ (fun σ' z => σ' = σ ∧ z = twS (σ 0 27) (wB σ) (kB σ) r j r j) := by
  refine Mt.of okM_Mo_together (Nat.le_of_ble_eq_true rfl) (fun hk hg => ?_)
  obtain ⟨h1, h2, h3, h4, h5, h6, -⟩ := id h
  refine ok_iconst 0 rfl rfl (by decide) (ok_ist3 1 rfl rfl rfl (ok_iconst 2 rfl rfl (by decide) (ok_ist4 3 rfl rfl rfl ?_)))
  refine lpO2 (fun v p : Int => [some (vr 0), some (vi r), some (vi j), some (vi v), some (vi p)]) (fun _ _ => σ) (fun v p => 0 ≤ p ∧ p ≤ σ 0 27 ∧ v = twS p (wB σ) (kB σ) r j r j) (fun _ p => (64 - p).toNat) ?_ 0 0 ⟨by omega, by omega, rfl⟩
  rintro v p ⟨k1, k2, k3⟩ ih
  have w3 : 0 ≤ sm (wB σ) p.toNat ∧ sm (wB σ) p.toNat ≤ σ 0 29 := wt_sum h k1 (by omega)
  have tb := twS_bd (N := p) (wt := wB σ) (col := kB σ) (i := r) (j := j) (k := r) (l := j) (fun q x y => wB_nn h q x (by omega))
  refine ok_iload 4 rfl rfl rfl (ok_aload_n 5 rfl rfl rfl (ok_getI 6 rfl rfl fl_X12_273 rfl rfl (Or.inl rfl) (ok_icmp_ge 7 50 rfl rfl rfl (fun h11 => ?_) (fun h11 => ?_))))
  · refine ok_iload_n 29 rfl rfl rfl (ok_iret 30 rfl rfl rfl ?_)
    exact ⟨_, rfl, rfl, by rw [k3, show p = σ 0 27 by omega]⟩
  · obtain ⟨w1, w2⟩ := wt_le h k1 (by omega)
    have e : sm (wB σ) (p + 1).toNat = sm (wB σ) p.toNat + σ 12 p := sm_s (wB σ) k1
    have w5 : sm (wB σ) (p + 1).toNat ≤ σ 0 29 := (wt_sum h (k := p + 1) (by omega) (by omega)).2
    have ts := twS_s (N := p) (wt := wB σ) (col := kB σ) (i := r) (j := j) (k := r) (l := j) k1
    have wp : wB σ p = σ 12 p := rfl
    have kp : kB σ p r = σ 13 (8 * p + r) := rfl
    refine ok_iload_n 8 rfl rfl rfl (ok_aload_n 9 rfl rfl rfl (ok_getR 10 rfl rfl fl_X12_51 rfl rfl (ok_bipush 11 rfl rfl (by decide) (by decide) (ok_iload 12 rfl rfl rfl (ok_imul 13 rfl rfl (by first | omega | (simp [up_if]; omega) | (simp [up_if] at *; omega)) (ok_iload_n 14 rfl rfl rfl (ok_iadd 15 rfl rfl (by first | omega | (simp [up_if]; omega) | (simp [up_if] at *; omega)) (ok_iald 16 rfl rfl rfl (by first | omega | (simp [up_if]; omega) | (simp [up_if] at *; omega)) (ok_iload_n 17 rfl rfl rfl (ok_icmp_ne 18 41 rfl rfl rfl (fun h28 => ?_) (fun h28 => ?_)))))))))))
    · refine ok_iconst 24 rfl rfl (by decide) (ok_iadd 25 rfl rfl (by first | omega | (simp [up_if]; omega) | (simp [up_if] at *; omega)) (ok_ist3 26 rfl rfl rfl (ok_inc4 27 rfl rfl rfl (by first | omega | (simp [up_if]; omega) | (simp [up_if] at *; omega)) (ok_goto 28 5 rfl rfl rfl ?_))))
      refine ih _ (p + 1) ⟨by omega, by omega, ?_⟩ (by omega)
      rw [ts]
      first
        | (rw [if_neg (by omega)]; omega)
        | (rw [if_pos (by omega)]; omega)
    · refine ok_aload_n 19 rfl rfl rfl (ok_getR 20 rfl rfl fl_X12_48 rfl rfl (ok_iload 21 rfl rfl rfl (ok_iald 22 rfl rfl rfl (by first | omega | (simp [up_if]; omega) | (simp [up_if] at *; omega)) (ok_goto 23 42 rfl rfl rfl (ok_iadd 25 rfl rfl (by first | omega | (simp [up_if]; omega) | (simp [up_if] at *; omega)) (ok_ist3 26 rfl rfl rfl (ok_inc4 27 rfl rfl rfl (by first | omega | (simp [up_if]; omega) | (simp [up_if] at *; omega)) (ok_goto 28 5 rfl rfl rfl ?_))))))))
      refine ih _ (p + 1) ⟨by omega, by omega, ?_⟩ (by omega)
      rw [ts]
      first
        | (rw [if_neg (by omega)]; omega)
        | (rw [if_pos (by omega)]; omega)
def cuS (f : Int → Int) (n : Int) : Int := sm (fun j => if 0 < f j then 1 else 0) n.toNat
theorem cuS_s {f : Int → Int} {n : Int} (hn : 0 ≤ n) : cuS f (n + 1) = cuS f n + (if 0 < f n then 1 else 0) := by unfold cuS; rw [sm_s _ hn]
def moS (N n : Int) (wt : Int → Int) (col : Int → Int → Int) (r w z : Int) : Prop := (z = -1 ∧ ¬ ((N ≠ 0 ∧ 0 ≤ r ∧ r < n) ∧ 0 ≤ w ∧ w ≤ 2)) ∨ (((0 ≤ r ∧ r < n) ∧ 0 ≤ w ∧ w ≤ 2) ∧ ((w = 2 ∧ z = cuS (fun c => twS N wt col r c r c) n) ∨ (w ≠ 2 ∧ ∃ b, mxS (fun c => twS N wt col r c r c) n b ∧ z = if w = 0 then b else twS N wt col r b r b)))
theorem t_Mo_most {σ : eS} {r w : Int} (h : iK σ) : MtI shB M_Mo_most [vr 0, vi r, vi w] σ (fun σ' z => σ' = σ ∧ moS (σ 0 27) (σ 0 28) (wB σ) (kB σ) r w z) := by
  refine Mt.of okM_Mo_most (Nat.le_of_ble_eq_true rfl) (fun hk hg => ?_)
  obtain ⟨h1, h2, h3, h4, h5, h6, -⟩ := id h
  refine ok_aload_n 0 rfl rfl rfl (ok_getI 1 rfl rfl fl_X12_273 rfl rfl (Or.inl rfl) (ok_if_eq 2 27 rfl rfl rfl (fun h4 => ?_) (fun h4 => ?_)))
  · refine ok_iconst 13 rfl rfl (by decide) (ok_iret 14 rfl rfl rfl ?_)
    exact ⟨_, rfl, rfl, Or.inl ⟨rfl, by omega⟩⟩
  · refine ok_aload_n 3 rfl rfl rfl (ok_iload_n 4 rfl rfl rfl (ok_callVI (M' := M_Mo_isKeptRow) (as := [_]) 5 rfl rfl ml_X12_303 (s_Mo_isKeptRow h) rfl rfl (Nat.le_of_ble_eq_true rfl) ⟨Nat.le_of_ble_eq_true rfl, Nat.le_of_ble_eq_true rfl⟩ rfl (Nat.le_of_ble_eq_true rfl) (fun σ' z1 a1 => ?_)))
    obtain ⟨hs_, a1⟩ := a1
    rw [hs_]; clear hs_ σ'
    refine ok_if_eq 6 27 rfl rfl rfl (fun h12 => ?_) (fun h12 => ?_)
    · refine ok_iconst 13 rfl rfl (by decide) (ok_iret 14 rfl rfl rfl ?_)
      exact ⟨_, rfl, rfl, Or.inl ⟨rfl, by omega⟩⟩
    · refine ok_iload_n 7 rfl rfl rfl (ok_i2l 8 rfl rfl (ok_lconst (w := 0) 9 rfl rfl rfl (by decide) (ok_ldc2 10 (2) rfl rfl kc_X12_306 (by decide) (ok_callSI (M' := M_Mo_isIn) (as := [_, _, _]) 11 rfl rfl ml_X12_99 (s_Mo_isIn_r) ⟨Nat.le_of_ble_eq_true rfl, Nat.le_of_ble_eq_true rfl⟩ rfl (Nat.le_of_ble_eq_true rfl) (fun σ' z2 a2 => ?_)))))
      obtain ⟨hs_, a2⟩ := a2
      rw [hs_]; clear hs_ σ'
      refine ok_if_ne 12 29 rfl rfl rfl (fun h24 => ?_) (fun h24 => ?_)
      · refine ok_iconst 15 rfl rfl (by decide) (ok_ist3 16 rfl rfl rfl (ok_iconst 17 rfl rfl (by decide) (ok_ist4 18 rfl rfl rfl (ok_iconst 19 rfl rfl (by decide) (ok_ist5 20 rfl rfl rfl ?_)))))
        have hr := yes1 a1 h12
        have hw := yes1 a2 h24
        obtain ⟨F, eF⟩ : ∃ F : Int → Int, F = fun c => twS (σ 0 27) (wB σ) (kB σ) r c r c := ⟨_, rfl⟩
        have eF' : ∀ c, twS (σ 0 27) (wB σ) (kB σ) r c r c = F c := fun c => by rw [eF]
        rw [show moS (σ 0 27) (σ 0 28) (wB σ) (kB σ) r w = moS (σ 0 27) (σ 0 28) (wB σ) (kB σ) r w from rfl]
        refine lpO3 (fun b c j : Int => [some (vr 0), some (vi r), some (vi w), some (vi b), some (vi c), some (vi j)]) (fun _ _ _ => σ) (fun b c j => 0 ≤ j ∧ j ≤ σ 0 28 ∧ (0 ≤ c ∧ c ≤ j) ∧ c = cuS F j ∧ (j = 0 → b = 0) ∧ (0 < j → mxS F j b)) (fun _ _ j => (8 - j).toNat) ?_ 0 0 0 ⟨by omega, by omega, ⟨by omega, by omega⟩, rfl, fun _ => rfl, fun q => by omega⟩
        rintro b c j ⟨j1, j2, j3, j4, j5, j6⟩ ih
        have nx : ∀ b', (F b < F j → b' = j) → (F j ≤ F b → b' = b) → mxS F (j + 1) b' := fun b' p q => by
          by_cases y : j = 0
          · have y1 := j5 y
            have y2 : b' = 0 := by
              rcases (by omega : F b < F j ∨ F j ≤ F b) with u | u
              · rw [p u, y]
              · rw [q u, y1]
            rw [y2, y]
            exact ⟨⟨by omega, by omega⟩, fun i u v => by rw [show i = 0 by omega]; exact Int.le_refl _, fun i u v => by omega⟩
          · have ms := mxS_s (j6 (by omega)) j1
            rcases (by omega : F b < F j ∨ F j ≤ F b) with u | u
            · rw [p u]; exact ms.1 u
            · rw [q u]; exact ms.2 u
        have cs := cuS_s (f := F) j1
        refine ok_iload 21 rfl rfl rfl (ok_aload_n 22 rfl rfl rfl (ok_getI 23 rfl rfl fl_X12_276 rfl rfl (Or.inl rfl) (ok_icmp_ge 24 94 rfl rfl rfl (fun h43 => ?_) (fun h43 => ?_))))
        · refine ok_iload_n 50 rfl rfl rfl (ok_if_ne 51 102 rfl rfl rfl (fun h95 => ?_) (fun h95 => ?_))
          · refine ok_iload_n 54 rfl rfl rfl (ok_iconst 55 rfl rfl (by decide) (ok_icmp_ne 56 116 rfl rfl rfl (fun h104 => ?_) (fun h104 => ?_)))
            · refine ok_iload 62 rfl rfl rfl (ok_iret 63 rfl rfl rfl ?_)
              have ej : j = σ 0 28 := by omega
              refine ⟨_, rfl, rfl, Or.inr ⟨⟨hr, hw⟩, ?_⟩⟩
              rw [← eF, ← ej]
              first
                | exact Or.inr ⟨by omega, b, j6 (by omega), by rw [if_pos (by omega)]⟩
                | exact Or.inr ⟨by omega, b, j6 (by omega), by rw [if_neg (by omega)]⟩
                | exact Or.inl ⟨by omega, j4⟩
            · refine ok_aload_n 57 rfl rfl rfl (ok_iload_n 58 rfl rfl rfl (ok_iload_n 59 rfl rfl rfl (ok_callVI (M' := M_Mo_together) (as := [_, _]) 60 rfl rfl ml_X12_308 (t_Mo_together h hr) rfl rfl (Nat.le_of_ble_eq_true rfl) ⟨Nat.le_of_ble_eq_true rfl, Nat.le_of_ble_eq_true rfl⟩ rfl (Nat.le_of_ble_eq_true rfl) (fun σ' z hz => ?_))))
              rw [hz.1, hz.2]; clear hz z σ'
              refine ok_goto 61 118 rfl rfl rfl (ok_iret 63 rfl rfl rfl ?_)
              have ej : j = σ 0 28 := by omega
              refine ⟨_, rfl, rfl, Or.inr ⟨⟨hr, hw⟩, ?_⟩⟩
              rw [← eF, ← ej]
              first
                | exact Or.inr ⟨by omega, b, j6 (by omega), by rw [if_pos (by omega)]⟩
                | exact Or.inr ⟨by omega, b, j6 (by omega), by rw [if_neg (by omega)]⟩
                | exact Or.inl ⟨by omega, j4⟩
          · refine ok_iload_n 52 rfl rfl rfl (ok_goto 53 118 rfl rfl rfl (ok_iret 63 rfl rfl rfl ?_))
            have ej : j = σ 0 28 := by omega
            refine ⟨_, rfl, rfl, Or.inr ⟨⟨hr, hw⟩, ?_⟩⟩
            rw [← eF, ← ej]
            first
              | exact Or.inr ⟨by omega, b, j6 (by omega), by rw [if_pos (by omega)]⟩
              | exact Or.inr ⟨by omega, b, j6 (by omega), by rw [if_neg (by omega)]⟩
              | exact Or.inl ⟨by omega, j4⟩
        · refine ok_aload_n 25 rfl rfl rfl (ok_iload_n 26 rfl rfl rfl (ok_iload 27 rfl rfl rfl (ok_callVI (M' := M_Mo_together) (as := [_, _]) 28 rfl rfl ml_X12_308 (t_Mo_together h hr) rfl rfl (Nat.le_of_ble_eq_true rfl) ⟨Nat.le_of_ble_eq_true rfl, Nat.le_of_ble_eq_true rfl⟩ rfl (Nat.le_of_ble_eq_true rfl) (fun σ' z hz => ?_))))
          rw [hz.1, hz.2, eF']; clear hz z σ'
          refine ok_aload_n 29 rfl rfl rfl (ok_iload_n 30 rfl rfl rfl (ok_iload_n 31 rfl rfl rfl (ok_callVI (M' := M_Mo_together) (as := [_, _]) 32 rfl rfl ml_X12_308 (t_Mo_together h hr) rfl rfl (Nat.le_of_ble_eq_true rfl) ⟨Nat.le_of_ble_eq_true rfl, Nat.le_of_ble_eq_true rfl⟩ rfl (Nat.le_of_ble_eq_true rfl) (fun σ' z hz => ?_))))
          rw [hz.1, hz.2, eF']; clear hz z σ'
          refine ok_icmp_le 33 65 rfl rfl rfl (fun h59 => ?_) (fun h59 => ?_)
          · refine ok_iload 36 rfl rfl rfl (ok_aload_n 37 rfl rfl rfl (ok_iload_n 38 rfl rfl rfl (ok_iload 39 rfl rfl rfl (ok_callVI (M' := M_Mo_together) (as := [_, _]) 40 rfl rfl ml_X12_308 (t_Mo_together h hr) rfl rfl (Nat.le_of_ble_eq_true rfl) ⟨Nat.le_of_ble_eq_true rfl, Nat.le_of_ble_eq_true rfl⟩ rfl (Nat.le_of_ble_eq_true rfl) (fun σ' z hz => ?_)))))
            rw [hz.1, hz.2, eF']; clear hz z σ'
            refine ok_if_le 41 81 rfl rfl rfl (fun h74 => ?_) (fun h74 => ?_)
            · refine ok_iconst 44 rfl rfl (by decide) (ok_callSI (M' := M_Mo_one) (as := [_]) 45 rfl rfl ml_X12_192 (s_Mo_one) ⟨Nat.le_of_ble_eq_true rfl, Nat.le_of_ble_eq_true rfl⟩ rfl (Nat.le_of_ble_eq_true rfl) (fun σ' z hz => ?_))
              have q0 := hz.2
              rw [hz.1]
              have q1 : z = if 0 < F j then 1 else 0 := by
                rw [q0]
                first
                  | (rw [if_neg (by decide), if_pos (by omega)])
                  | (rw [if_pos (by decide), if_neg (by omega)])
              clear q0 hz σ'
              have q2 : 0 ≤ z ∧ z ≤ 1 := by rw [q1]; split <;> omega
              refine ok_iadd 46 rfl rfl (by first | omega | (simp [up_if]; omega) | (simp [up_if] at *; omega)) (ok_ist4 47 rfl rfl rfl (ok_inc5 48 rfl rfl rfl (by first | omega | (simp [up_if]; omega) | (simp [up_if] at *; omega)) (ok_goto 49 37 rfl rfl rfl ?_)))
              refine ih _ _ (j + 1) ⟨by omega, by omega, ⟨by omega, by omega⟩, by rw [cs, ← q1, j4], fun q => by omega, fun _ => nx _ (fun q => by omega) (fun q => by omega)⟩ (by omega)
            · refine ok_iconst 42 rfl rfl (by decide) (ok_goto 43 82 rfl rfl rfl (ok_callSI (M' := M_Mo_one) (as := [_]) 45 rfl rfl ml_X12_192 (s_Mo_one) ⟨Nat.le_of_ble_eq_true rfl, Nat.le_of_ble_eq_true rfl⟩ rfl (Nat.le_of_ble_eq_true rfl) (fun σ' z hz => ?_)))
              have q0 := hz.2
              rw [hz.1]
              have q1 : z = if 0 < F j then 1 else 0 := by
                rw [q0]
                first
                  | (rw [if_neg (by decide), if_pos (by omega)])
                  | (rw [if_pos (by decide), if_neg (by omega)])
              clear q0 hz σ'
              have q2 : 0 ≤ z ∧ z ≤ 1 := by rw [q1]; split <;> omega
              refine ok_iadd 46 rfl rfl (by first | omega | (simp [up_if]; omega) | (simp [up_if] at *; omega)) (ok_ist4 47 rfl rfl rfl (ok_inc5 48 rfl rfl rfl (by first | omega | (simp [up_if]; omega) | (simp [up_if] at *; omega)) (ok_goto 49 37 rfl rfl rfl ?_)))
              refine ih _ _ (j + 1) ⟨by omega, by omega, ⟨by omega, by omega⟩, by rw [cs, ← q1, j4], fun q => by omega, fun _ => nx _ (fun q => by omega) (fun q => by omega)⟩ (by omega)
          · refine ok_iload 34 rfl rfl rfl (ok_ist3 35 rfl rfl rfl (ok_iload 36 rfl rfl rfl (ok_aload_n 37 rfl rfl rfl (ok_iload_n 38 rfl rfl rfl (ok_iload 39 rfl rfl rfl (ok_callVI (M' := M_Mo_together) (as := [_, _]) 40 rfl rfl ml_X12_308 (t_Mo_together h hr) rfl rfl (Nat.le_of_ble_eq_true rfl) ⟨Nat.le_of_ble_eq_true rfl, Nat.le_of_ble_eq_true rfl⟩ rfl (Nat.le_of_ble_eq_true rfl) (fun σ' z hz => ?_)))))))
            rw [hz.1, hz.2, eF']; clear hz z σ'
            refine ok_if_le 41 81 rfl rfl rfl (fun h74 => ?_) (fun h74 => ?_)
            · refine ok_iconst 44 rfl rfl (by decide) (ok_callSI (M' := M_Mo_one) (as := [_]) 45 rfl rfl ml_X12_192 (s_Mo_one) ⟨Nat.le_of_ble_eq_true rfl, Nat.le_of_ble_eq_true rfl⟩ rfl (Nat.le_of_ble_eq_true rfl) (fun σ' z hz => ?_))
              have q0 := hz.2
              rw [hz.1]
              have q1 : z = if 0 < F j then 1 else 0 := by
                rw [q0]
                first
                  | (rw [if_neg (by decide), if_pos (by omega)])
                  | (rw [if_pos (by decide), if_neg (by omega)])
              clear q0 hz σ'
              have q2 : 0 ≤ z ∧ z ≤ 1 := by rw [q1]; split <;> omega
              refine ok_iadd 46 rfl rfl (by first | omega | (simp [up_if]; omega) | (simp [up_if] at *; omega)) (ok_ist4 47 rfl rfl rfl (ok_inc5 48 rfl rfl rfl (by first | omega | (simp [up_if]; omega) | (simp [up_if] at *; omega)) (ok_goto 49 37 rfl rfl rfl ?_)))
              refine ih _ _ (j + 1) ⟨by omega, by omega, ⟨by omega, by omega⟩, by rw [cs, ← q1, j4], fun q => by omega, fun _ => nx _ (fun q => by omega) (fun q => by omega)⟩ (by omega)
            · refine ok_iconst 42 rfl rfl (by decide) (ok_goto 43 82 rfl rfl rfl (ok_callSI (M' := M_Mo_one) (as := [_]) 45 rfl rfl ml_X12_192 (s_Mo_one) ⟨Nat.le_of_ble_eq_true rfl, Nat.le_of_ble_eq_true rfl⟩ rfl (Nat.le_of_ble_eq_true rfl) (fun σ' z hz => ?_)))
              have q0 := hz.2
              rw [hz.1]
              have q1 : z = if 0 < F j then 1 else 0 := by
                rw [q0]
                first
                  | (rw [if_neg (by decide), if_pos (by omega)])
                  | (rw [if_pos (by decide), if_neg (by omega)])
              clear q0 hz σ'
              have q2 : 0 ≤ z ∧ z ≤ 1 := by rw [q1]; split <;> omega
              refine ok_iadd 46 rfl rfl (by first | omega | (simp [up_if]; omega) | (simp [up_if] at *; omega)) (ok_ist4 47 rfl rfl rfl (ok_inc5 48 rfl rfl rfl (by first | omega | (simp [up_if]; omega) | (simp [up_if] at *; omega)) (ok_goto 49 37 rfl rfl rfl ?_)))
              refine ih _ _ (j + 1) ⟨by omega, by omega, ⟨by omega, by omega⟩, by rw [cs, ← q1, j4], fun q => by omega, fun _ => nx _ (fun q => by omega) (fun q => by omega)⟩ (by omega)
      · refine ok_iconst 13 rfl rfl (by decide) (ok_iret 14 rfl rfl rfl ?_)
        exact ⟨_, rfl, rfl, Or.inl ⟨rfl, by omega⟩⟩
theorem t_Mo_joint {σ : eS} {i j k l w : Int} (h : iK σ) : MtI shB M_Mo_joint [vr 0, vi i, vi j, vi k, vi l, vi w] σ (fun σ' z => σ' = σ ∧ (σ 0 27 ≠ 0 → jtS (σ 0 27) (σ 0 28) (σ 0 29) (wB σ) (kB σ) i j k l w z) ∧ (σ 0 27 = 0 → z = -1)) := by
  refine Mt.of okM_Mo_joint (Nat.le_of_ble_eq_true rfl) (fun hk hg => ?_)
  obtain ⟨h1, h2, h3, h4, h5, h6, -⟩ := id h
  have no : ∀ {z : Int}, ¬ okJ4 (σ 0 28) i j k l w → jtS (σ 0 27) (σ 0 28) (σ 0 29) (wB σ) (kB σ) i j k l w (-1) := fun q => by unfold jtS; rw [if_neg q]
  refine ok_aload_n 0 rfl rfl rfl (ok_getI 1 rfl rfl fl_X12_273 rfl rfl (Or.inl rfl) (ok_if_eq 2 51 rfl rfl rfl (fun h4 => ?_) (fun h4 => ?_)))
  · refine ok_iconst 25 rfl rfl (by decide) (ok_iret 26 rfl rfl rfl ?_)
    exact ⟨_, rfl, rfl, fun q => absurd (by omega) q, fun _ => rfl⟩
  · refine ok_aload_n 3 rfl rfl rfl (ok_iload_n 4 rfl rfl rfl (ok_callVI (M' := M_Mo_isKeptRow) (as := [_]) 5 rfl rfl ml_X12_303 (s_Mo_isKeptRow h) rfl rfl (Nat.le_of_ble_eq_true rfl) ⟨Nat.le_of_ble_eq_true rfl, Nat.le_of_ble_eq_true rfl⟩ rfl (Nat.le_of_ble_eq_true rfl) (fun σ' z1 a1 => ?_)))
    obtain ⟨hs_, a1⟩ := a1
    rw [hs_]; clear hs_ σ'
    refine ok_if_eq 6 51 rfl rfl rfl (fun h12 => ?_) (fun h12 => ?_)
    · refine ok_iconst 25 rfl rfl (by decide) (ok_iret 26 rfl rfl rfl ?_)
      exact ⟨_, rfl, rfl, fun q => no (z := 0) (by unfold okJ4; omega), fun _ => rfl⟩
    · refine ok_aload_n 7 rfl rfl rfl (ok_iload_n 8 rfl rfl rfl (ok_callVI (M' := M_Mo_isKeptRow) (as := [_]) 9 rfl rfl ml_X12_303 (s_Mo_isKeptRow h) rfl rfl (Nat.le_of_ble_eq_true rfl) ⟨Nat.le_of_ble_eq_true rfl, Nat.le_of_ble_eq_true rfl⟩ rfl (Nat.le_of_ble_eq_true rfl) (fun σ' z2 a2 => ?_)))
      obtain ⟨hs_, a2⟩ := a2
      rw [hs_]; clear hs_ σ'
      refine ok_if_eq 10 51 rfl rfl rfl (fun h20 => ?_) (fun h20 => ?_)
      · refine ok_iconst 25 rfl rfl (by decide) (ok_iret 26 rfl rfl rfl ?_)
        exact ⟨_, rfl, rfl, fun q => no (z := 0) (by unfold okJ4; omega), fun _ => rfl⟩
      · refine ok_aload_n 11 rfl rfl rfl (ok_iload_n 12 rfl rfl rfl (ok_callVI (M' := M_Mo_isKeptRow) (as := [_]) 13 rfl rfl ml_X12_303 (s_Mo_isKeptRow h) rfl rfl (Nat.le_of_ble_eq_true rfl) ⟨Nat.le_of_ble_eq_true rfl, Nat.le_of_ble_eq_true rfl⟩ rfl (Nat.le_of_ble_eq_true rfl) (fun σ' z3 a3 => ?_)))
        obtain ⟨hs_, a3⟩ := a3
        rw [hs_]; clear hs_ σ'
        refine ok_if_eq 14 51 rfl rfl rfl (fun h28 => ?_) (fun h28 => ?_)
        · refine ok_iconst 25 rfl rfl (by decide) (ok_iret 26 rfl rfl rfl ?_)
          exact ⟨_, rfl, rfl, fun q => no (z := 0) (by unfold okJ4; omega), fun _ => rfl⟩
        · refine ok_aload_n 15 rfl rfl rfl (ok_iload 16 rfl rfl rfl (ok_callVI (M' := M_Mo_isKeptRow) (as := [_]) 17 rfl rfl ml_X12_303 (s_Mo_isKeptRow h) rfl rfl (Nat.le_of_ble_eq_true rfl) ⟨Nat.le_of_ble_eq_true rfl, Nat.le_of_ble_eq_true rfl⟩ rfl (Nat.le_of_ble_eq_true rfl) (fun σ' z4 a4 => ?_)))
          obtain ⟨hs_, a4⟩ := a4
          rw [hs_]; clear hs_ σ'
          refine ok_if_eq 18 51 rfl rfl rfl (fun h37 => ?_) (fun h37 => ?_)
          · refine ok_iconst 25 rfl rfl (by decide) (ok_iret 26 rfl rfl rfl ?_)
            exact ⟨_, rfl, rfl, fun q => no (z := 0) (by unfold okJ4; omega), fun _ => rfl⟩
          · refine ok_iload 19 rfl rfl rfl (ok_i2l 20 rfl rfl (ok_lconst (w := 0) 21 rfl rfl rfl (by decide) (ok_lconst (w := 1) 22 rfl rfl rfl (by decide) (ok_callSI (M' := M_Mo_isIn) (as := [_, _, _]) 23 rfl rfl ml_X12_99 (s_Mo_isIn_r) ⟨Nat.le_of_ble_eq_true rfl, Nat.le_of_ble_eq_true rfl⟩ rfl (Nat.le_of_ble_eq_true rfl) (fun σ' z5 a5 => ?_)))))
            obtain ⟨hs_, a5⟩ := a5
            rw [hs_]; clear hs_ σ'
            refine ok_if_ne 24 53 rfl rfl rfl (fun h48 => ?_) (fun h48 => ?_)
            · refine ok_iconst 27 rfl rfl (by decide) (ok_ist6 28 rfl rfl rfl (ok_iconst 29 rfl rfl (by decide) (ok_ist7 30 rfl rfl rfl ?_)))
              have r1 := yes1 a1 h12
              have r2 := yes1 a2 h20
              have r3 := yes1 a3 h28
              have r4 := yes1 a4 h37
              have r5 := yes1 a5 h48
              refine lpO2 (fun v p : Int => [some (vr 0), some (vi i), some (vi j), some (vi k), some (vi l), some (vi w), some (vi v), some (vi p)]) (fun _ _ => σ) (fun v p => 0 ≤ p ∧ p ≤ σ 0 27 ∧ v = twS p (wB σ) (kB σ) i j k l) (fun _ p => (64 - p).toNat) ?_ 0 0 ⟨by omega, by omega, rfl⟩
              rintro v p ⟨k1, k2, k3⟩ ih
              have w3 : 0 ≤ sm (wB σ) p.toNat ∧ sm (wB σ) p.toNat ≤ σ 0 29 := wt_sum h k1 (by omega)
              obtain ⟨w6, w7⟩ := wt_le h (k := 0) (by omega) (by omega)
              have tb := twS_bd (N := p) (wt := wB σ) (col := kB σ) (i := i) (j := j) (k := k) (l := l) (fun q x y => wB_nn h q x (by omega))
              refine ok_iload 31 rfl rfl rfl (ok_aload_n 32 rfl rfl rfl (ok_getI 33 rfl rfl fl_X12_273 rfl rfl (Or.inl rfl) (ok_icmp_ge 34 123 rfl rfl rfl (fun h65 => ?_) (fun h65 => ?_))))
              · obtain ⟨c1, c2⟩ := gcd_pos (a := σ 0 29) (b := v) (by omega)
                have ep : p = σ 0 27 := by omega
                rw [← k3] at tb
                rw [ep] at k3
                refine ok_aload_n 66 rfl rfl rfl (ok_getI 67 rfl rfl fl_X12_279 rfl rfl (Or.inl rfl) (ok_i2l 68 rfl rfl (ok_iload 69 rfl rfl rfl (ok_i2l 70 rfl rfl (ok_callSL (M' := M_Mo_common) (as := [_, _]) 71 rfl rfl ml_X12_89 (s_Mo_common (by omega) (by omega)) ⟨Nat.le_of_ble_eq_true rfl, Nat.le_of_ble_eq_true rfl⟩ rfl (Nat.le_of_ble_eq_true rfl) (fun σ' z hz => ?_))))))
                rw [hz.1, hz.2]
                clear hz z σ'
                refine ok_l2i 72 rfl rfl (by first | omega | (simp [up_if]; omega) | (simp [up_if] at *; omega)) (ok_ist7 73 rfl rfl rfl (ok_iload 74 rfl rfl rfl (ok_if_ne 75 150 rfl rfl rfl (fun h139 => ?_) (fun h139 => ?_))))
                · refine ok_aload_n 80 rfl rfl rfl (ok_getI 81 rfl rfl fl_X12_279 rfl rfl (Or.inl rfl) (ok_iload 82 rfl rfl rfl (ok_idiv 83 rfl rfl (by omega) (by omega) (ok_iret 84 rfl rfl rfl ?_))))
                  refine ⟨_, rfl, rfl, fun q => ?_, fun q => by omega⟩
                  unfold jtS
                  rw [← k3, if_pos (by unfold okJ4; omega)]
                  first | rw [if_pos (by omega)] | rw [if_neg (by omega)]
                · refine ok_iload 76 rfl rfl rfl (ok_iload 77 rfl rfl rfl (ok_idiv 78 rfl rfl (by omega) (by omega) (ok_goto 79 157 rfl rfl rfl (ok_iret 84 rfl rfl rfl ?_))))
                  refine ⟨_, rfl, rfl, fun q => ?_, fun q => by omega⟩
                  unfold jtS
                  rw [← k3, if_pos (by unfold okJ4; omega)]
                  first | rw [if_pos (by omega)] | rw [if_neg (by omega)]
              · obtain ⟨w1, w2⟩ := wt_le h k1 (by omega)
                have e : sm (wB σ) (p + 1).toNat = sm (wB σ) p.toNat + σ 12 p := sm_s (wB σ) k1
                have w5 : sm (wB σ) (p + 1).toNat ≤ σ 0 29 := (wt_sum h (k := p + 1) (by omega) (by omega)).2
                have ts := twS_s (N := p) (wt := wB σ) (col := kB σ) (i := i) (j := j) (k := k) (l := l) k1
                have wp : wB σ p = σ 12 p := rfl
                have kp : kB σ p i = σ 13 (8 * p + i) := rfl
                have kp2 : kB σ p k = σ 13 (8 * p + k) := rfl
                refine ok_iload 35 rfl rfl rfl (ok_aload_n 36 rfl rfl rfl (ok_getR 37 rfl rfl fl_X12_51 rfl rfl (ok_bipush 38 rfl rfl (by decide) (by decide) (ok_iload 39 rfl rfl rfl (ok_imul 40 rfl rfl (by first | omega | (simp [up_if]; omega) | (simp [up_if] at *; omega)) (ok_iload_n 41 rfl rfl rfl (ok_iadd 42 rfl rfl (by first | omega | (simp [up_if]; omega) | (simp [up_if] at *; omega)) (ok_iald 43 rfl rfl rfl (by first | omega | (simp [up_if]; omega) | (simp [up_if] at *; omega)) (ok_iload_n 44 rfl rfl rfl (ok_icmp_ne 45 113 rfl rfl rfl (fun h83 => ?_) (fun h83 => ?_)))))))))))
                · refine ok_iconst 61 rfl rfl (by decide) (ok_iadd 62 rfl rfl (by first | omega | (simp [up_if]; omega) | (simp [up_if] at *; omega)) (ok_ist6 63 rfl rfl rfl (ok_inc7 64 rfl rfl rfl (by first | omega | (simp [up_if]; omega) | (simp [up_if] at *; omega)) (ok_goto 65 59 rfl rfl rfl ?_))))
                  refine ih _ (p + 1) ⟨by omega, by omega, ?_⟩ (by omega)
                  rw [ts]
                  first
                    | (rw [if_neg (by omega)]; omega)
                    | (rw [if_pos (by omega)]; omega)
                · refine ok_aload_n 46 rfl rfl rfl (ok_getR 47 rfl rfl fl_X12_51 rfl rfl (ok_bipush 48 rfl rfl (by decide) (by decide) (ok_iload 49 rfl rfl rfl (ok_imul 50 rfl rfl (by first | omega | (simp [up_if]; omega) | (simp [up_if] at *; omega)) (ok_iload_n 51 rfl rfl rfl (ok_iadd 52 rfl rfl (by first | omega | (simp [up_if]; omega) | (simp [up_if] at *; omega)) (ok_iald 53 rfl rfl rfl (by first | omega | (simp [up_if]; omega) | (simp [up_if] at *; omega)) (ok_iload 54 rfl rfl rfl (ok_icmp_ne 55 113 rfl rfl rfl (fun h100 => ?_) (fun h100 => ?_))))))))))
                  · refine ok_iconst 61 rfl rfl (by decide) (ok_iadd 62 rfl rfl (by first | omega | (simp [up_if]; omega) | (simp [up_if] at *; omega)) (ok_ist6 63 rfl rfl rfl (ok_inc7 64 rfl rfl rfl (by first | omega | (simp [up_if]; omega) | (simp [up_if] at *; omega)) (ok_goto 65 59 rfl rfl rfl ?_))))
                    refine ih _ (p + 1) ⟨by omega, by omega, ?_⟩ (by omega)
                    rw [ts]
                    first
                      | (rw [if_neg (by omega)]; omega)
                      | (rw [if_pos (by omega)]; omega)
                  · refine ok_aload_n 56 rfl rfl rfl (ok_getR 57 rfl rfl fl_X12_48 rfl rfl (ok_iload 58 rfl rfl rfl (ok_iald 59 rfl rfl rfl (by first | omega | (simp [up_if]; omega) | (simp [up_if] at *; omega)) (ok_goto 60 114 rfl rfl rfl (ok_iadd 62 rfl rfl (by first | omega | (simp [up_if]; omega) | (simp [up_if] at *; omega)) (ok_ist6 63 rfl rfl rfl (ok_inc7 64 rfl rfl rfl (by first | omega | (simp [up_if]; omega) | (simp [up_if] at *; omega)) (ok_goto 65 59 rfl rfl rfl ?_))))))))
                    refine ih _ (p + 1) ⟨by omega, by omega, ?_⟩ (by omega)
                    rw [ts]
                    first
                      | (rw [if_neg (by omega)]; omega)
                      | (rw [if_pos (by omega)]; omega)
            · refine ok_iconst 25 rfl rfl (by decide) (ok_iret 26 rfl rfl rfl ?_)
              exact ⟨_, rfl, rfl, fun q => no (z := 0) (by unfold okJ4; omega), fun _ => rfl⟩
theorem t_Mo_works {σ : eS} {j t : Int} (h : iK σ) : MtI shB M_Mo_works [vr 0, vi j, vi t] σ (fun σ' z => σ' = σ ∧ wkS (σ 0 27) (σ 0 31) (wB σ) (kB σ) (σ 0 30 = 2 ∧ 0 ≤ j ∧ j < σ 0 31) j t z) := by
  refine Mt.of okM_Mo_works (Nat.le_of_ble_eq_true rfl) (fun hk hg => ?_)
  obtain ⟨k1, k2, k3, k4, k5, k6, -⟩ := id h
  have ws := wB_sum h
  refine ok_aload_n 0 rfl rfl rfl (ok_iload_n 1 rfl rfl rfl (ok_callVI (M' := M_Mo_isJob) (as := [_]) 2 rfl rfl ml_X12_366 (s_Mo_isJob h) rfl rfl (Nat.le_of_ble_eq_true rfl) ⟨Nat.le_of_ble_eq_true rfl, Nat.le_of_ble_eq_true rfl⟩ rfl (Nat.le_of_ble_eq_true rfl) (fun σ' z1 a1 => ?_)))
  obtain ⟨hs_, a1⟩ := a1
  rw [hs_]; clear hs_ σ'
  refine ok_if_eq 3 24 rfl rfl rfl (fun h5 => ?_) (fun h5 => ?_)
  · refine ok_iconst 14 rfl rfl (by decide) (ok_iret 15 rfl rfl rfl ?_)
    exact ⟨_, rfl, rfl, Or.inl ⟨rfl, no1 a1 h5⟩⟩
  · refine ok_iload_n 4 rfl rfl rfl (ok_i2l 5 rfl rfl (ok_lconst (w := 0) 6 rfl rfl rfl (by decide) (ok_aload_n 7 rfl rfl rfl (ok_getI 8 rfl rfl fl_X12_279 rfl rfl (Or.inl rfl) (ok_iconst 9 rfl rfl (by decide) (ok_isub 10 rfl rfl (by first | omega | (simp [up_if]; omega) | (simp [up_if] at *; omega)) (ok_i2l 11 rfl rfl (ok_callSI (M' := M_Mo_isIn) (as := [_, _, _]) 12 rfl rfl ml_X12_99 (s_Mo_isIn_r) ⟨Nat.le_of_ble_eq_true rfl, Nat.le_of_ble_eq_true rfl⟩ rfl (Nat.le_of_ble_eq_true rfl) (fun σ' z2 a2 => ?_)))))))))
    obtain ⟨hs_, a2⟩ := a2
    rw [hs_]; clear hs_ σ'
    refine ok_if_ne 13 26 rfl rfl rfl (fun h21 => ?_) (fun h21 => ?_)
    · have r1 := yes1 a1 h5
      have r2 := yes1 a2 h21
      have r3 := h.two r1.1
      refine ok_aload_n 16 rfl rfl rfl (ok_getR 17 rfl rfl fl_X12_51 rfl rfl (ok_bipush 18 rfl rfl (by decide) (by decide) (ok_aload_n 19 rfl rfl rfl (ok_iload_n 20 rfl rfl rfl (ok_callVI (M' := M_Mo_draw) (as := [_]) 21 rfl rfl ml_X12_369 (t_Mo_draw h) rfl rfl (Nat.le_of_ble_eq_true rfl) ⟨Nat.le_of_ble_eq_true rfl, Nat.le_of_ble_eq_true rfl⟩ rfl (Nat.le_of_ble_eq_true rfl) (fun σ' z3 a3 => ?_))))))
      obtain ⟨hs_, a3⟩ := a3
      rw [hs_]; clear hs_ σ'
      have r4 : 0 ≤ z3 ∧ z3 < σ 0 27 := by
        rcases id a3 with ⟨-, q⟩ | ⟨q, -⟩
        · exact absurd (by omega) q
        · exact q
      refine ok_imul 22 rfl rfl (by first | omega | (simp [up_if]; omega) | (simp [up_if] at *; omega)) (ok_iload_n 23 rfl rfl rfl (ok_iadd 24 rfl rfl (by first | omega | (simp [up_if]; omega) | (simp [up_if] at *; omega)) (ok_iald 25 rfl rfl rfl (by first | omega | (simp [up_if]; omega) | (simp [up_if] at *; omega)) (ok_ist3 26 rfl rfl rfl (ok_iload_n 27 rfl rfl rfl (ok_aload_n 28 rfl rfl rfl (ok_getI 29 rfl rfl fl_X12_363 rfl rfl (Or.inl rfl) (ok_icmp_ge 30 54 rfl rfl rfl (fun h47 => ?_) (fun h47 => ?_)))))))))
      · refine ok_iconst 33 rfl rfl (by decide) (ok_iret 34 rfl rfl rfl ?_)
        refine ⟨_, rfl, rfl, Or.inr ⟨r1, z3, a3, Or.inr ⟨r4.1, ?_⟩⟩⟩
        have kp : kB σ z3 j = σ 13 (8 * z3 + j) := rfl
        rw [kp]
        first | (rw [if_pos (by omega)]) | (rw [if_neg (by omega)])
      · refine ok_iload_n 31 rfl rfl rfl (ok_goto 32 55 rfl rfl rfl (ok_iret 34 rfl rfl rfl ?_))
        refine ⟨_, rfl, rfl, Or.inr ⟨r1, z3, a3, Or.inr ⟨r4.1, ?_⟩⟩⟩
        have kp : kB σ z3 j = σ 13 (8 * z3 + j) := rfl
        rw [kp]
        first | (rw [if_pos (by omega)]) | (rw [if_neg (by omega)])
    · refine ok_iconst 14 rfl rfl (by decide) (ok_iret 15 rfl rfl rfl ?_)
      exact ⟨_, rfl, rfl, Or.inr ⟨yes1 a1 h5, -1, Or.inl ⟨rfl, by omega⟩, Or.inl ⟨rfl, rfl⟩⟩⟩
theorem t_Mo_kept {σ : eS} {w : Int} : MtI shB M_Mo_kept [vr 0, vi w] σ (fun σ' z => σ' = σ ∧ z = if w = 0 then σ 0 30 else if w = 1 then σ 0 27 else if w = 2 then σ 0 29 else if w = 3 then (if σ 0 30 = 2 then σ 0 31 else σ 0 28) else if w = 4 then σ 0 6 else -1) := by
  refine Mt.of okM_Mo_kept (Nat.le_of_ble_eq_true rfl) (fun hk hg => ?_)
  refine ok_iload_n 0 rfl rfl rfl ?_
  rcases (by omega : w = 0 ∨ w = 1 ∨ w = 2 ∨ w = 3 ∨ w = 4 ∨ (w < 0 ∨ 4 < w)) with q_ | q_ | q_ | q_ | q_ | q_
  · subst q_
    refine ok_tin 1 (len := 35) 36 rfl rfl (by decide) (by decide) rfl rfl ?_
    refine ok_aload_n 2 rfl rfl rfl (ok_getI 3 rfl rfl fl_X12_282 rfl rfl (Or.inl rfl) (ok_iret 4 rfl rfl rfl ?_))
    refine ⟨_, rfl, rfl, ?_⟩
    first
      | rfl
      | (show σ 0 31 = if σ 0 30 = 2 then σ 0 31 else σ 0 28; rw [if_pos (by omega)])
      | (show σ 0 28 = if σ 0 30 = 2 then σ 0 31 else σ 0 28; rw [if_neg (by omega)])
      | (rw [if_neg (by omega), if_neg (by omega), if_neg (by omega), if_neg (by omega), if_neg (by omega)])
  · subst q_
    refine ok_tin 1 (len := 35) 41 rfl rfl (by decide) (by decide) rfl rfl ?_
    refine ok_aload_n 5 rfl rfl rfl (ok_getI 6 rfl rfl fl_X12_273 rfl rfl (Or.inl rfl) (ok_iret 7 rfl rfl rfl ?_))
    refine ⟨_, rfl, rfl, ?_⟩
    first
      | rfl
      | (show σ 0 31 = if σ 0 30 = 2 then σ 0 31 else σ 0 28; rw [if_pos (by omega)])
      | (show σ 0 28 = if σ 0 30 = 2 then σ 0 31 else σ 0 28; rw [if_neg (by omega)])
      | (rw [if_neg (by omega), if_neg (by omega), if_neg (by omega), if_neg (by omega), if_neg (by omega)])
  · subst q_
    refine ok_tin 1 (len := 35) 46 rfl rfl (by decide) (by decide) rfl rfl ?_
    refine ok_aload_n 8 rfl rfl rfl (ok_getI 9 rfl rfl fl_X12_279 rfl rfl (Or.inl rfl) (ok_iret 10 rfl rfl rfl ?_))
    refine ⟨_, rfl, rfl, ?_⟩
    first
      | rfl
      | (show σ 0 31 = if σ 0 30 = 2 then σ 0 31 else σ 0 28; rw [if_pos (by omega)])
      | (show σ 0 28 = if σ 0 30 = 2 then σ 0 31 else σ 0 28; rw [if_neg (by omega)])
      | (rw [if_neg (by omega), if_neg (by omega), if_neg (by omega), if_neg (by omega), if_neg (by omega)])
  · subst q_
    refine ok_tin 1 (len := 35) 51 rfl rfl (by decide) (by decide) rfl rfl ?_
    refine ok_aload_n 11 rfl rfl rfl (ok_getI 12 rfl rfl fl_X12_282 rfl rfl (Or.inl rfl) (ok_iconst 13 rfl rfl (by decide) (ok_icmp_ne 14 66 rfl rfl rfl (fun h56 => ?_) (fun h56 => ?_))))
    · refine ok_aload_n 18 rfl rfl rfl (ok_getI 19 rfl rfl fl_X12_276 rfl rfl (Or.inl rfl) (ok_iret 20 rfl rfl rfl ?_))
      refine ⟨_, rfl, rfl, ?_⟩
      first
        | rfl
        | (show σ 0 31 = if σ 0 30 = 2 then σ 0 31 else σ 0 28; rw [if_pos (by omega)])
        | (show σ 0 28 = if σ 0 30 = 2 then σ 0 31 else σ 0 28; rw [if_neg (by omega)])
        | (rw [if_neg (by omega), if_neg (by omega), if_neg (by omega), if_neg (by omega), if_neg (by omega)])
    · refine ok_aload_n 15 rfl rfl rfl (ok_getI 16 rfl rfl fl_X12_363 rfl rfl (Or.inl rfl) (ok_goto 17 70 rfl rfl rfl (ok_iret 20 rfl rfl rfl ?_)))
      refine ⟨_, rfl, rfl, ?_⟩
      first
        | rfl
        | (show σ 0 31 = if σ 0 30 = 2 then σ 0 31 else σ 0 28; rw [if_pos (by omega)])
        | (show σ 0 28 = if σ 0 30 = 2 then σ 0 31 else σ 0 28; rw [if_neg (by omega)])
        | (rw [if_neg (by omega), if_neg (by omega), if_neg (by omega), if_neg (by omega), if_neg (by omega)])
  · subst q_
    refine ok_tin 1 (len := 35) 71 rfl rfl (by decide) (by decide) rfl rfl ?_
    refine ok_aload_n 21 rfl rfl rfl (ok_getI 22 rfl rfl fl_X12_125 rfl rfl (Or.inl rfl) (ok_iret 23 rfl rfl rfl ?_))
    refine ⟨_, rfl, rfl, ?_⟩
    first
      | rfl
      | (show σ 0 31 = if σ 0 30 = 2 then σ 0 31 else σ 0 28; rw [if_pos (by omega)])
      | (show σ 0 28 = if σ 0 30 = 2 then σ 0 31 else σ 0 28; rw [if_neg (by omega)])
      | (rw [if_neg (by omega), if_neg (by omega), if_neg (by omega), if_neg (by omega), if_neg (by omega)])
  · refine ok_tout 1 (len := 35) 76 rfl rfl q_ rfl ?_
    refine ok_iconst 24 rfl rfl (by decide) (ok_iret 25 rfl rfl rfl ?_)
    refine ⟨_, rfl, rfl, ?_⟩
    first
      | rfl
      | (show σ 0 31 = if σ 0 30 = 2 then σ 0 31 else σ 0 28; rw [if_pos (by omega)])
      | (show σ 0 28 = if σ 0 30 = 2 then σ 0 31 else σ 0 28; rw [if_neg (by omega)])
      | (rw [if_neg (by omega), if_neg (by omega), if_neg (by omega), if_neg (by omega), if_neg (by omega)])
