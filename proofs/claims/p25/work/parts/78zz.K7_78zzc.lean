section
/-! THE PARTS KEPT, asked: the same sums and scans on both sides -/
/-- how much of the whole has two columns at two rows -/
def twS (N : Int) (wt : Int → Int) (col : Int → Int → Int) (i j k l : Int) : Int := sm (fun p => if col p i = j ∧ col p k = l then wt p else 0) N.toNat
theorem twS_cg {N n i j k l : Int} {wt wt' : Int → Int} {col col' : Int → Int → Int} (h : ∀ q, 0 ≤ q → q < N → wt q = wt' q ∧ ∀ i, 0 ≤ i → i < n → col q i = col' q i) (hi : 0 ≤ i ∧ i < n) (hk : 0 ≤ k ∧ k < n) : twS N wt col i j k l = twS N wt' col' i j k l := by
  unfold twS
  refine sm_cg (fun p a b => ?_)
  obtain ⟨h1, h2⟩ := h p a (by omega)
  rw [h1, h2 i hi.1 hi.2, h2 k hk.1 hk.2]
def wA (σ : eS) : Int → Int := fun q => σ 23 q
def kA (σ : eS) : Int → Int → Int := fun q i => σ 24 (8 * q + i)
def wB (σ : eS) : Int → Int := fun q => σ 12 q
def kB (σ : eS) : Int → Int → Int := fun q i => σ 13 (8 * q + i)
theorem sm_nn {f : Int → Int} : ∀ {n : Nat}, (∀ k : Int, 0 ≤ k → k < n → 0 ≤ f k) → 0 ≤ sm f n
  | 0, _ => Int.le_refl _
  | n + 1, h => by
    have a := sm_nn (n := n) (fun k a b => h k a (by omega))
    have b := h n (by omega) (by omega)
    show 0 ≤ sm f n + f n
    omega
theorem twS_bd {N i j k l : Int} {wt : Int → Int} {col : Int → Int → Int} (h : ∀ q, 0 ≤ q → q < N → 0 ≤ wt q) : 0 ≤ twS N wt col i j k l ∧ twS N wt col i j k l ≤ sm wt N.toNat := by
  refine ⟨sm_nn (fun q a b => ?_), sm_le2 (fun q a b => ?_)⟩
  · try dsimp only
    have := h q a (by omega)
    split <;> omega
  · have := h q a (by omega)
    split <;> omega
theorem twS_s {N i j k l : Int} {wt : Int → Int} {col : Int → Int → Int} (hN : 0 ≤ N) : twS (N + 1) wt col i j k l = twS N wt col i j k l + (if col N i = j ∧ col N k = l then wt N else 0) := by
  unfold twS
  rw [sm_s _ hN]
theorem t_Mi_weightOfBoth {σ : eS} {r c r2 c2 : Int} (h : iMi σ) (hr : 0 ≤ r ∧ r < 8) (hr2 : 0 ≤ r2 ∧ r2 < 8) : MtI shA M_Mi_weightOfBoth [vr 22, vi r, vi c, vi r2, vi c2] σ (fun σ' z => σ' = σ ∧ z = twS (σ 22 5) (wA σ) (kA σ) r c r2 c2) := by
  refine Mt.of okM_Mi_weightOfBoth (Nat.le_of_ble_eq_true rfl) (fun hk hg => ?_)
  obtain ⟨⟨h1, h2, h3, h4, h5, h6, h7⟩, a, b, d⟩ := id h
  refine ok_iconst 0 rfl rfl (by decide) (ok_ist5 1 rfl rfl rfl (ok_iconst 2 rfl rfl (by decide) (ok_ist6 3 rfl rfl rfl ?_)))
  refine lpO2 (fun (v j : Int) => [some (vr 22), some (vi r), some (vi c), some (vi r2), some (vi c2), some (vi v), some (vi j)]) (fun _ _ => σ) (fun v j => 0 ≤ j ∧ j ≤ σ 22 5 ∧ v = twS j (wA σ) (kA σ) r c r2 c2) (fun _ j => (64 - j).toNat) ?_ 0 0 ⟨by omega, by omega, rfl⟩
  rintro v j ⟨j1, j2, v1⟩ ih
  refine ok_iload 4 rfl rfl rfl (ok_aload_n 5 rfl rfl rfl (ok_getI 6 rfl rfl fl_X3_28 rfl rfl (Or.inl rfl) (ok_icmp_ge 7 56 rfl rfl rfl (fun h12 => ?_) (fun h12 => ?_))))
  · refine ok_iload 29 rfl rfl rfl (ok_iret 30 rfl rfl rfl ?_)
    exact ⟨_, rfl, rfl, by rw [v1, show j = σ 22 5 by omega]⟩
  · have w := mi_bd h j1 (by omega)
    have tb := twS_bd (N := j) (wt := wA σ) (col := kA σ) (i := r) (j := c) (k := r2) (l := c2) (fun q x y => a q x (by omega))
    have ts := twS_s (N := j) (wt := wA σ) (col := kA σ) (i := r) (j := c) (k := r2) (l := c2) j1
    have wj : wA σ j = σ 23 j := rfl
    have sw : sm (wA σ) j.toNat = sm (fun k => σ 23 k) j.toNat := rfl
    have k1 : kA σ j r = σ 24 (j * 8 + r) := by unfold kA; congr 1; omega
    have k2 : kA σ j r2 = σ 24 (j * 8 + r2) := by unfold kA; congr 1; omega
    refine ok_aload_n 8 rfl rfl rfl (ok_iload 9 rfl rfl rfl (ok_iload_n 10 rfl rfl rfl (ok_callVI (M' := M_Mi_columnOf) (as := [_, _]) 11 rfl rfl ml_X3_46 (s_Mi_columnOf h ⟨by omega, by omega⟩ hr) rfl rfl (Nat.le_of_ble_eq_true rfl) ⟨Nat.le_of_ble_eq_true rfl, Nat.le_of_ble_eq_true rfl⟩ rfl (Nat.le_of_ble_eq_true rfl) (fun σ' z1 x1 => ?_))))
    obtain ⟨hs_, x1⟩ := x1
    rw [hs_]; clear hs_ σ'
    refine ok_iload_n 12 rfl rfl rfl (ok_icmp_ne 13 50 rfl rfl rfl (fun h23 => ?_) (fun h23 => ?_))
    · refine ok_inc6 27 rfl rfl rfl (by first | omega | (simp [up_if]; omega) | (simp [up_if] at *; omega)) (ok_goto 28 6 rfl rfl rfl ?_)
      refine ih _ (j + 1) ⟨by omega, by omega, ?_⟩ (by omega)
      rw [ts]
      first
        | (rw [if_neg (by omega)]; omega)
        | (rw [if_pos (by omega)]; omega)
    · refine ok_aload_n 14 rfl rfl rfl (ok_iload 15 rfl rfl rfl (ok_iload_n 16 rfl rfl rfl (ok_callVI (M' := M_Mi_columnOf) (as := [_, _]) 17 rfl rfl ml_X3_46 (s_Mi_columnOf h ⟨by omega, by omega⟩ hr2) rfl rfl (Nat.le_of_ble_eq_true rfl) ⟨Nat.le_of_ble_eq_true rfl, Nat.le_of_ble_eq_true rfl⟩ rfl (Nat.le_of_ble_eq_true rfl) (fun σ' z2 x2 => ?_))))
      obtain ⟨hs_, x2⟩ := x2
      rw [hs_]; clear hs_ σ'
      refine ok_iload 18 rfl rfl rfl (ok_icmp_ne 19 50 rfl rfl rfl (fun h35 => ?_) (fun h35 => ?_))
      · refine ok_inc6 27 rfl rfl rfl (by first | omega | (simp [up_if]; omega) | (simp [up_if] at *; omega)) (ok_goto 28 6 rfl rfl rfl ?_)
        refine ih _ (j + 1) ⟨by omega, by omega, ?_⟩ (by omega)
        rw [ts]
        first
          | (rw [if_neg (by omega)]; omega)
          | (rw [if_pos (by omega)]; omega)
      · refine ok_iload 20 rfl rfl rfl (ok_aload_n 21 rfl rfl rfl (ok_getR 22 rfl rfl fl_X3_9 rfl rfl (ok_iload 23 rfl rfl rfl (ok_iald 24 rfl rfl rfl (by first | omega | (simp [up_if]; omega) | (simp [up_if] at *; omega)) (ok_iadd 25 rfl rfl (by first | omega | (simp [up_if]; omega) | (simp [up_if] at *; omega)) (ok_ist5 26 rfl rfl rfl (ok_inc6 27 rfl rfl rfl (by first | omega | (simp [up_if]; omega) | (simp [up_if] at *; omega)) (ok_goto 28 6 rfl rfl rfl ?_))))))))
        refine ih _ (j + 1) ⟨by omega, by omega, ?_⟩ (by omega)
        rw [ts]
        first
          | (rw [if_neg (by omega)]; omega)
          | (rw [if_pos (by omega)]; omega)
theorem t_Mi_weightOf {σ : eS} {r c : Int} (h : iMi σ) (hr : 0 ≤ r ∧ r < 8) : MtI shA M_Mi_weightOf [vr 22, vi r, vi c] σ (fun σ' z => σ' = σ ∧ z = twS (σ 22 5) (wA σ) (kA σ) r c r c) := by
  refine Mt.of okM_Mi_weightOf (Nat.le_of_ble_eq_true rfl) (fun hk hg => ?_)
  refine ok_aload_n 0 rfl rfl rfl (ok_iload_n 1 rfl rfl rfl (ok_iload_n 2 rfl rfl rfl (ok_iload_n 3 rfl rfl rfl (ok_iload_n 4 rfl rfl rfl (ok_callVI (M' := M_Mi_weightOfBoth) (as := [_, _, _, _]) 5 rfl rfl ml_X3_50 (t_Mi_weightOfBoth h hr hr) rfl rfl (Nat.le_of_ble_eq_true rfl) ⟨Nat.le_of_ble_eq_true rfl, Nat.le_of_ble_eq_true rfl⟩ rfl (Nat.le_of_ble_eq_true rfl) (fun σ' z hz => ?_))))))
  obtain ⟨hs_, hz⟩ := hz
  rw [hs_]; clear hs_ σ'
  refine ok_iret 6 rfl rfl rfl ?_
  exact ⟨_, rfl, rfl, hz⟩
/-- a share in least terms -/
def ltS (m w b : Int) : Int := if b ≠ 0 then w / (Int.gcd m w : Int) else m / (Int.gcd m w : Int)
theorem t_Mi_inLeastTerms {σ : eS} {w b : Int} (h : iMi σ) (hw : 0 ≤ w ∧ w ≤ 799999992) : MtI shA M_Mi_inLeastTerms [vr 22, vi w, vi b] σ (fun σ' z => σ' = σ ∧ (1 ≤ σ 22 6 → z = ltS (σ 22 6) w b)) := by
  refine Mt.of okM_Mi_inLeastTerms (Nat.le_of_ble_eq_true rfl) (fun hk hg => ?_)
  obtain ⟨⟨h1, h2, h3, h4, h5, h6, h7⟩, a, b', c⟩ := h
  have gp : 1 ≤ σ 22 6 → 1 ≤ (Int.gcd (σ 22 6) w : Int) ∧ (Int.gcd (σ 22 6) w : Int) ≤ σ 22 6 := fun q => gcd_pos (by omega)
  have g0 : (0 : Int) ≤ (Int.gcd (σ 22 6) w : Int) := by omega
  have g1 : (Int.gcd (σ 22 6) w : Int) ≤ 799999992 := by
    by_cases q : 1 ≤ σ 22 6
    · have := gp q; omega
    · rw [show σ 22 6 = 0 by omega, Int.gcd_zero_left]; omega
  refine ok_aload_n 0 rfl rfl rfl (ok_getI 1 rfl rfl fl_X3_31 rfl rfl (Or.inl rfl) (ok_i2l 2 rfl rfl (ok_iload_n 3 rfl rfl rfl (ok_i2l 4 rfl rfl (ok_callSL (M' := M_Nu_greatestDivisor) (as := [_, _]) 5 rfl rfl ml_X3_40 (s_Nu_greatestDivisor h5 ⟨hw.1, by omega⟩) ⟨Nat.le_of_ble_eq_true rfl, Nat.le_of_ble_eq_true rfl⟩ rfl (Nat.le_of_ble_eq_true rfl) (fun σ' z hz => ?_))))))
  rw [hz.1, hz.2]
  clear hz z σ'
  refine ok_l2i 6 rfl rfl (by omega) (ok_ist3 7 rfl rfl rfl (ok_iload_n 8 rfl rfl rfl (ok_iconst 9 rfl rfl (by decide) (ok_icmp_ge 10 19 rfl rfl rfl (fun h14 => ?_) (fun h14 => ?_)))))
  · refine ok_iload_n 13 rfl rfl rfl (ok_if_eq 14 29 rfl rfl rfl (fun h20 => ?_) (fun h20 => ?_))
    · refine ok_aload_n 19 rfl rfl rfl (ok_getI 20 rfl rfl fl_X3_31 rfl rfl (Or.inl rfl) (ok_iload_n 21 rfl rfl rfl (ok_idiv 22 rfl rfl (by first | omega | (simp [up_if]; omega) | (simp [up_if] at *; omega)) (by first | omega | (simp [up_if]; omega) | (simp [up_if] at *; omega)) (ok_iret 23 rfl rfl rfl ?_))))
      refine ⟨_, rfl, rfl, fun q => ?_⟩
      have := gp q
      unfold ltS
      first | omega | (rw [if_pos (by omega)]) | (rw [if_neg (by omega)])
    · refine ok_iload_n 15 rfl rfl rfl (ok_iload_n 16 rfl rfl rfl (ok_idiv 17 rfl rfl (by first | omega | (simp [up_if]; omega) | (simp [up_if] at *; omega)) (by first | omega | (simp [up_if]; omega) | (simp [up_if] at *; omega)) (ok_goto 18 35 rfl rfl rfl (ok_iret 23 rfl rfl rfl ?_))))
      refine ⟨_, rfl, rfl, fun q => ?_⟩
      have := gp q
      unfold ltS
      first | omega | (rw [if_pos (by omega)]) | (rw [if_neg (by omega)])
  · refine ok_iconst 11 rfl rfl (by decide) (ok_iret 12 rfl rfl rfl ?_)
    refine ⟨_, rfl, rfl, fun q => ?_⟩
    have := gp q
    unfold ltS
    first | omega | (rw [if_pos (by omega)]) | (rw [if_neg (by omega)])
/-- the part that a number draws -/
def drS (N : Int) (wt : Int → Int) (r z : Int) : Prop := (z = -1 ∧ ¬ (0 ≤ r ∧ r < sm wt N.toNat)) ∨ ((0 ≤ z ∧ z < N) ∧ sm wt z.toNat ≤ r ∧ r < sm wt (z + 1).toNat)
theorem drS_un {N r z z' : Int} {wt wt' : Int → Int} (hw : ∀ q, 0 ≤ q → q < N → 0 ≤ wt q) (e : ∀ q, 0 ≤ q → q < N → wt q = wt' q) (h : drS N wt r z) (h' : drS N wt' r z') : z = z' := by
  have ec : ∀ x : Int, x ≤ N → sm wt x.toNat = sm wt' x.toNat := fun x hx => sm_cg (fun k a b => e k a (by omega))
  have mo : ∀ x y : Int, 0 ≤ x → x ≤ y → y ≤ N → sm wt x.toNat ≤ sm wt y.toNat := fun x y a b c => sm_mn (by omega) (fun k p q => hw k p (by omega))
  have z0 : 0 ≤ sm wt (0 : Int).toNat := Int.le_refl _
  rcases h with ⟨a1, a2⟩ | ⟨a1, a2, a3⟩ <;> rcases h' with ⟨b1, b2⟩ | ⟨b1, b2, b3⟩
  · omega
  · exfalso
    have x := mo (z' + 1) N (by omega) (by omega) (by omega)
    have y := mo 0 z' (by omega) (by omega) (by omega)
    rw [← ec z' (by omega)] at b2
    rw [← ec (z' + 1) (by omega)] at b3
    omega
  · exfalso
    have x := mo (z + 1) N (by omega) (by omega) (by omega)
    have y := mo 0 z (by omega) (by omega) (by omega)
    rw [← ec N (by omega)] at b2
    omega
  · rw [← ec z' (by omega)] at b2
    rw [← ec (z' + 1) (by omega)] at b3
    rcases (by omega : z < z' ∨ z = z' ∨ z' < z) with q | q | q
    · have := mo (z + 1) z' (by omega) (by omega) (by omega); omega
    · exact q
    · have := mo (z' + 1) z (by omega) (by omega) (by omega); omega
theorem t_Mi_partAt {σ : eS} {r : Int} (h : iMi σ) : MtI shA M_Mi_partAt [vr 22, vi r] σ (fun σ' z => σ' = σ ∧ drS (σ 22 5) (wA σ) r z) := by
  refine Mt.of okM_Mi_partAt (Nat.le_of_ble_eq_true rfl) (fun hk hg => ?_)
  obtain ⟨⟨h1, h2, h3, h4, h5, h6, h7⟩, a, b, c⟩ := id h
  refine ok_iload_n 0 rfl rfl rfl (ok_if_ge 1 6 rfl rfl rfl (fun h1 => ?_) (fun h1 => ?_))
  · refine ok_iload_n 4 rfl rfl rfl (ok_ist2 5 rfl rfl rfl (ok_iconst 6 rfl rfl (by decide) (ok_ist3 7 rfl rfl rfl ?_)))
    refine lpO2 (fun (v j : Int) => [some (vr 22), some (vi r), some (vi v), some (vi j)]) (fun _ _ => σ) (fun v j => 0 ≤ j ∧ j ≤ σ 22 5 ∧ 0 ≤ v ∧ v = r - sm (wA σ) j.toNat) (fun _ j => (64 - j).toNat) ?_ r 0 ⟨by omega, by omega, by omega, by show r = r - 0; omega⟩
    have hr : rg r := hk.2.1
    rintro v j ⟨j1, j2, v1, v2⟩ ih
    have sn : 0 ≤ sm (wA σ) j.toNat := sm_nn (fun q x y => a q x (by omega))
    refine ok_iload_n 8 rfl rfl rfl (ok_aload_n 9 rfl rfl rfl (ok_getI 10 rfl rfl fl_X3_28 rfl rfl (Or.inl rfl) (ok_icmp_ge 11 45 rfl rfl rfl (fun h15 => ?_) (fun h15 => ?_))))
    · refine ok_iconst 29 rfl rfl (by decide) (ok_iret 30 rfl rfl rfl ?_)
      exact ⟨_, rfl, rfl, Or.inl ⟨rfl, by rw [show σ 22 5 = j by omega]; omega⟩⟩
    · have w := mi_bd h j1 (by omega)
      have e := sm_s (wA σ) (j := j) j1
      have wj : wA σ j = σ 23 j := rfl
      refine ok_iload_n 12 rfl rfl rfl (ok_aload_n 13 rfl rfl rfl (ok_getR 14 rfl rfl fl_X3_9 rfl rfl (ok_iload_n 15 rfl rfl rfl (ok_iald 16 rfl rfl rfl (by first | omega | (simp [up_if]; omega) | (simp [up_if] at *; omega)) (ok_icmp_ge 17 30 rfl rfl rfl (fun h25 => ?_) (fun h25 => ?_))))))
      · refine ok_iload_n 20 rfl rfl rfl (ok_aload_n 21 rfl rfl rfl (ok_getR 22 rfl rfl fl_X3_9 rfl rfl (ok_iload_n 23 rfl rfl rfl (ok_iald 24 rfl rfl rfl (by first | omega | (simp [up_if]; omega) | (simp [up_if] at *; omega)) (ok_isub 25 rfl rfl (by first | omega | (simp [up_if]; omega) | (simp [up_if] at *; omega)) (ok_ist2 26 rfl rfl rfl (ok_inc3 27 rfl rfl rfl (by first | omega | (simp [up_if]; omega) | (simp [up_if] at *; omega)) (ok_goto 28 10 rfl rfl rfl ?_))))))))
        exact ih _ (j + 1) ⟨by omega, by omega, by omega, by omega⟩ (by omega)
      · refine ok_iload_n 18 rfl rfl rfl (ok_iret 19 rfl rfl rfl ?_)
        exact ⟨_, rfl, rfl, Or.inr ⟨⟨by omega, by omega⟩, by omega, by omega⟩⟩
  · refine ok_iconst 2 rfl rfl (by decide) (ok_iret 3 rfl rfl rfl ?_)
    exact ⟨_, rfl, rfl, Or.inl ⟨rfl, by omega⟩⟩
/-- the first of the greatest -/
def mxS (f : Int → Int) (n z : Int) : Prop := (0 ≤ z ∧ z < n) ∧ (∀ j, 0 ≤ j → j < n → f j ≤ f z) ∧ ∀ j, 0 ≤ j → j < z → f j < f z
theorem mxS_un {f g : Int → Int} {n z z' : Int} (e : ∀ j, 0 ≤ j → j < n → f j = g j) (h : mxS f n z) (h' : mxS g n z') : z = z' := by
  obtain ⟨a1, a2, a3⟩ := h
  obtain ⟨b1, b2, b3⟩ := h'
  rcases (by omega : z < z' ∨ z = z' ∨ z' < z) with q | q | q
  · have x := b3 z a1.1 q
    have y := a2 z' b1.1 b1.2
    rw [← e z a1.1 a1.2, ← e z' b1.1 b1.2] at x
    omega
  · exact q
  · have x := a3 z' b1.1 q
    have y := b2 z a1.1 a1.2
    rw [← e z a1.1 a1.2, ← e z' b1.1 b1.2] at y
    omega
theorem mxS_s {f : Int → Int} {n z : Int} (h : mxS f n z) (hn : 0 ≤ n) : (f z < f n → mxS f (n + 1) n) ∧ (f n ≤ f z → mxS f (n + 1) z) := by
  obtain ⟨a1, a2, a3⟩ := h
  refine ⟨fun q => ⟨⟨hn, by omega⟩, lt_ext (fun j x y => ?_) (Int.le_refl _), fun j x y => ?_⟩, fun q => ⟨⟨a1.1, by omega⟩, lt_ext a2 q, a3⟩⟩
  · have := a2 j x y; omega
  · have := a2 j x y; omega
theorem t_Mi_commonestColumn {σ : eS} {r : Int} (h : iMi σ) (hr : 0 ≤ r ∧ r < σ 22 4) : MtI shA M_Mi_commonestColumn [vr 22, vi r] σ (fun σ' z => σ' = σ ∧ mxS (fun c => twS (σ 22 5) (wA σ) (kA σ) r c r c) (σ 22 4) z) := by
  refine Mt.of okM_Mi_commonestColumn (Nat.le_of_ble_eq_true rfl) (fun hk hg => ?_)
  obtain ⟨⟨h1, h2, h3, h4, h5, h6, h7⟩, a, b, d⟩ := id h
  refine ok_iconst 0 rfl rfl (by decide) (ok_ist2 1 rfl rfl rfl (ok_iconst 2 rfl rfl (by decide) (ok_ist3 3 rfl rfl rfl ?_)))
  refine lpO2 (fun (v j : Int) => [some (vr 22), some (vi r), some (vi v), some (vi j)]) (fun _ _ => σ) (fun v j => 1 ≤ j ∧ j ≤ σ 22 4 ∧ mxS (fun c => twS (σ 22 5) (wA σ) (kA σ) r c r c) j v) (fun _ j => (9 - j).toNat) ?_ 0 1 ⟨by omega, by omega, ⟨by omega, by omega⟩, fun j x y => by rw [show j = 0 by omega]; exact Int.le_refl _, fun j x y => by omega⟩
  rintro v j ⟨j1, j2, v1⟩ ih
  have ms := mxS_s v1 (by omega)
  try dsimp only at ms
  refine ok_iload_n 4 rfl rfl rfl (ok_aload_n 5 rfl rfl rfl (ok_getI 6 rfl rfl fl_X3_25 rfl rfl (Or.inl rfl) (ok_icmp_ge 7 35 rfl rfl rfl (fun h9 => ?_) (fun h9 => ?_))))
  · refine ok_iload_n 21 rfl rfl rfl (ok_iret 22 rfl rfl rfl ?_)
    exact ⟨_, rfl, rfl, by rw [show σ 22 4 = j by omega]; exact v1⟩
  · refine ok_aload_n 8 rfl rfl rfl (ok_iload_n 9 rfl rfl rfl (ok_iload_n 10 rfl rfl rfl (ok_callVI (M' := M_Mi_weightOf) (as := [_, _]) 11 rfl rfl ml_X3_54 (t_Mi_weightOf h ⟨hr.1, by omega⟩) rfl rfl (Nat.le_of_ble_eq_true rfl) ⟨Nat.le_of_ble_eq_true rfl, Nat.le_of_ble_eq_true rfl⟩ rfl (Nat.le_of_ble_eq_true rfl) (fun σ' z1 x1 => ?_))))
    obtain ⟨hs_, x1⟩ := x1
    rw [hs_]; clear hs_ σ'
    refine ok_aload_n 12 rfl rfl rfl (ok_iload_n 13 rfl rfl rfl (ok_iload_n 14 rfl rfl rfl (ok_callVI (M' := M_Mi_weightOf) (as := [_, _]) 15 rfl rfl ml_X3_54 (t_Mi_weightOf h ⟨hr.1, by omega⟩) rfl rfl (Nat.le_of_ble_eq_true rfl) ⟨Nat.le_of_ble_eq_true rfl, Nat.le_of_ble_eq_true rfl⟩ rfl (Nat.le_of_ble_eq_true rfl) (fun σ' z2 x2 => ?_))))
    obtain ⟨hs_, x2⟩ := x2
    rw [hs_]; clear hs_ σ'
    refine ok_icmp_le 16 29 rfl rfl rfl (fun h24 => ?_) (fun h24 => ?_)
    · refine ok_inc3 19 rfl rfl rfl (by first | omega | (simp [up_if]; omega) | (simp [up_if] at *; omega)) (ok_goto 20 4 rfl rfl rfl ?_)
      refine ih _ (j + 1) ⟨by omega, by omega, ?_⟩ (by omega)
      first
        | exact ms.1 (by omega)
        | exact ms.2 (by omega)
    · refine ok_iload_n 17 rfl rfl rfl (ok_ist2 18 rfl rfl rfl (ok_inc3 19 rfl rfl rfl (by first | omega | (simp [up_if]; omega) | (simp [up_if] at *; omega)) (ok_goto 20 4 rfl rfl rfl ?_)))
      refine ih _ (j + 1) ⟨by omega, by omega, ?_⟩ (by omega)
      first
        | exact ms.1 (by omega)
        | exact ms.2 (by omega)
def seS (N : Int) (col : Int → Int → Int) (r s : Int) : Prop := (0 ≤ s ∧ s < 256) ∧ ∀ c : Int, 0 ≤ c → c < 8 → (bt s c = true ↔ ∃ p, 0 ≤ p ∧ p < N ∧ col p r = c)
theorem seS_s {N r s x : Int} {col : Int → Int → Int} (hN : 0 ≤ N) (h : seS N col r s) (hx : col N r = x) (hb : 0 ≤ x ∧ x ≤ 7) : seS (N + 1) col r (ior s (ishl 1 x)) := by
  have o := or8 h.1 (j := x) ⟨hb.1, by omega⟩
  refine ⟨o, fun c a b => ?_⟩
  rw [bitP h.1 ⟨hb.1, by omega⟩, bt_sB' hb.1 a, h.2 c a b]
  constructor
  · rintro (⟨p, p1, p2, p3⟩ | q)
    · exact ⟨p, p1, by omega, p3⟩
    · exact ⟨N, hN, by omega, by rw [hx]; exact q.symm⟩
  · rintro ⟨p, p1, p2, p3⟩
    by_cases q : p = N
    · right; rw [← hx, ← q]; exact p3.symm
    · exact Or.inl ⟨p, p1, by omega, p3⟩
theorem t_Mi_countColumns {σ : eS} {r : Int} (h : iMi σ) (hr : 0 ≤ r ∧ r < 8) : MtI shA M_Mi_countColumns [vr 22, vi r] σ (fun σ' z => σ' = σ ∧ ∃ s, seS (σ 22 5) (kA σ) r s ∧ z = pc s) := by
  refine Mt.of okM_Mi_countColumns (Nat.le_of_ble_eq_true rfl) (fun hk hg => ?_)
  obtain ⟨⟨h1, h2, h3, h4, h5, h6, h7⟩, a, b, d⟩ := id h
  refine ok_iconst 0 rfl rfl (by decide) (ok_ist2 1 rfl rfl rfl (ok_iconst 2 rfl rfl (by decide) (ok_ist3 3 rfl rfl rfl ?_)))
  refine lpO2 (fun (v j : Int) => [some (vr 22), some (vi r), some (vi v), some (vi j)]) (fun _ _ => σ) (fun v j => 0 ≤ j ∧ j ≤ σ 22 5 ∧ seS j (kA σ) r v) (fun _ j => (64 - j).toNat) ?_ 0 0 ⟨by omega, by omega, ⟨by omega, by omega⟩, fun c x y => by rw [bt_0]; constructor; intro q; cases q; rintro ⟨p, p1, p2, -⟩; omega⟩
  rintro v j ⟨j1, j2, v1⟩ ih
  refine ok_iload_n 4 rfl rfl rfl (ok_aload_n 5 rfl rfl rfl (ok_getI 6 rfl rfl fl_X3_28 rfl rfl (Or.inl rfl) (ok_icmp_ge 7 29 rfl rfl rfl (fun h9 => ?_) (fun h9 => ?_))))
  · refine ok_iload_n 19 rfl rfl rfl (ok_callSI (M' := M_Ji_bitCount) (as := [_]) 20 rfl rfl ml_X3_57 (s_Ji_bitCount) ⟨Nat.le_of_ble_eq_true rfl, Nat.le_of_ble_eq_true rfl⟩ rfl (Nat.le_of_ble_eq_true rfl) (fun σ' z hz => ?_))
    rw [hz.1, hz.2]
    clear hz z σ'
    refine ok_iret 21 rfl rfl rfl ?_
    exact ⟨_, rfl, rfl, _, by rw [show σ 22 5 = j by omega]; exact v1, bcP v1.1⟩
  · refine ok_iload_n 8 rfl rfl rfl (ok_iconst 9 rfl rfl (by decide) (ok_aload_n 10 rfl rfl rfl (ok_iload_n 11 rfl rfl rfl (ok_iload_n 12 rfl rfl rfl (ok_callVI (M' := M_Mi_columnOf) (as := [_, _]) 13 rfl rfl ml_X3_46 (s_Mi_columnOf h ⟨by omega, by omega⟩ hr) rfl rfl (Nat.le_of_ble_eq_true rfl) ⟨Nat.le_of_ble_eq_true rfl, Nat.le_of_ble_eq_true rfl⟩ rfl (Nat.le_of_ble_eq_true rfl) (fun σ' z1 x1 => ?_))))))
    obtain ⟨hs_, x1⟩ := x1
    rw [hs_]; clear hs_ σ'
    refine ok_ishl 14 rfl rfl (ok_ior 15 rfl rfl (ok_ist2 16 rfl rfl rfl (ok_inc3 17 rfl rfl rfl (by first | omega | (simp [up_if]; omega) | (simp [up_if] at *; omega)) (ok_goto 18 4 rfl rfl rfl ?_))))
    exact ih _ (j + 1) ⟨by omega, by omega, seS_s j1 v1 (by unfold kA; rw [x1.1]; congr 1; omega) x1.2⟩ (by omega)
theorem t_Mi_machineOf {σ : eS} {k r : Int} (h : iMi σ) (hkk : 0 ≤ k ∧ k < 64) (hr : 0 ≤ r ∧ r < 8) : MtI shA M_Mi_machineOf [vr 22, vi k, vi r] σ (fun σ' z => σ' = σ ∧ z = if kA σ k r < σ 22 3 then kA σ k r else -1) := by
  refine Mt.of okM_Mi_machineOf (Nat.le_of_ble_eq_true rfl) (fun hk hg => ?_)
  have e : kA σ k r = σ 24 (k * 8 + r) := by unfold kA; congr 1; omega
  refine ok_aload_n 0 rfl rfl rfl (ok_iload_n 1 rfl rfl rfl (ok_iload_n 2 rfl rfl rfl (ok_callVI (M' := M_Mi_columnOf) (as := [_, _]) 3 rfl rfl ml_X3_46 (s_Mi_columnOf h hkk hr) rfl rfl (Nat.le_of_ble_eq_true rfl) ⟨Nat.le_of_ble_eq_true rfl, Nat.le_of_ble_eq_true rfl⟩ rfl (Nat.le_of_ble_eq_true rfl) (fun σ' z hz => ?_))))
  obtain ⟨hs_, hz⟩ := hz
  rw [hs_]; clear hs_ σ'
  refine ok_ist3 4 rfl rfl rfl (ok_iload_n 5 rfl rfl rfl (ok_aload_n 6 rfl rfl rfl (ok_getI 7 rfl rfl fl_X3_22 rfl rfl (Or.inl rfl) (ok_icmp_ge 8 19 rfl rfl rfl (fun h12 => ?_) (fun h12 => ?_)))))
  · refine ok_iconst 11 rfl rfl (by decide) (ok_iret 12 rfl rfl rfl ?_)
    refine ⟨_, rfl, rfl, ?_⟩
    rw [e]
    first | (rw [if_pos (by omega)]; omega) | (rw [if_neg (by omega)])
  · refine ok_iload_n 9 rfl rfl rfl (ok_goto 10 20 rfl rfl rfl (ok_iret 12 rfl rfl rfl ?_))
    refine ⟨_, rfl, rfl, ?_⟩
    rw [e]
    first | (rw [if_pos (by omega)]; omega) | (rw [if_neg (by omega)])
/-- the answers -/
def prS (N n : Int) (col : Int → Int → Int) (k r z : Int) : Prop := z = @ite Int (0 ≤ k ∧ k < N ∧ 0 ≤ r ∧ r < n) (Classical.propDecidable _) (col k r) (-1)
theorem t_Ev_part {σ : eS} {k r : Int} (h : IA σ) : MtI shA M_Ev_part [vr 0, vi k, vi r] σ (fun σ' z => σ' = σ ∧ prS (σ 22 5) (σ 22 4) (kA σ) k r z) := by
  refine Mt.of okM_Ev_part (Nat.le_of_ble_eq_true rfl) (fun hk hg => ?_)
  have hm := h.2.2.2.1
  obtain ⟨⟨h1, h2, h3, h4, h5, h6, h7⟩, a, b, d⟩ := id hm
  have e : kA σ k r = σ 24 (k * 8 + r) := by unfold kA; congr 1; omega
  refine ok_aload_n 0 rfl rfl rfl (ok_getR 1 rfl rfl fl_X11_48 rfl rfl (ok_iload_n 2 rfl rfl rfl (ok_callVI (M' := M_Mi_hasPart) (as := [_]) 3 rfl rfl ml_X11_181 (s_Mi_hasPart) rfl rfl (Nat.le_of_ble_eq_true rfl) ⟨Nat.le_of_ble_eq_true rfl, Nat.le_of_ble_eq_true rfl⟩ rfl (Nat.le_of_ble_eq_true rfl) (fun σ' z1 x1 => ?_))))
  obtain ⟨hs_, x1⟩ := x1
  rw [hs_]; clear hs_ σ'
  refine ok_if_eq 4 34 rfl rfl rfl (fun h8 => ?_) (fun h8 => ?_)
  · refine ok_iconst 16 rfl rfl (by decide) (ok_iret 17 rfl rfl rfl ?_)
    refine ⟨_, rfl, rfl, ?_⟩
    unfold prS
    first | (rw [if_pos (by omega)]; omega) | (rw [if_neg (by omega)])
  · refine ok_aload_n 5 rfl rfl rfl (ok_getR 6 rfl rfl fl_X11_48 rfl rfl (ok_iload_n 7 rfl rfl rfl (ok_callVI (M' := M_Mi_hasRow) (as := [_]) 8 rfl rfl ml_X11_184 (s_Mi_hasRow) rfl rfl (Nat.le_of_ble_eq_true rfl) ⟨Nat.le_of_ble_eq_true rfl, Nat.le_of_ble_eq_true rfl⟩ rfl (Nat.le_of_ble_eq_true rfl) (fun σ' z2 x2 => ?_))))
    obtain ⟨hs_, x2⟩ := x2
    rw [hs_]; clear hs_ σ'
    refine ok_if_eq 9 34 rfl rfl rfl (fun h19 => ?_) (fun h19 => ?_)
    · refine ok_iconst 16 rfl rfl (by decide) (ok_iret 17 rfl rfl rfl ?_)
      refine ⟨_, rfl, rfl, ?_⟩
      unfold prS
      first | (rw [if_pos (by omega)]; omega) | (rw [if_neg (by omega)])
    · refine ok_aload_n 10 rfl rfl rfl (ok_getR 11 rfl rfl fl_X11_48 rfl rfl (ok_iload_n 12 rfl rfl rfl (ok_iload_n 13 rfl rfl rfl (ok_callVI (M' := M_Mi_columnOf) (as := [_, _]) 14 rfl rfl ml_X11_187 (s_Mi_columnOf hm ⟨by omega, by omega⟩ ⟨by omega, by omega⟩) rfl rfl (Nat.le_of_ble_eq_true rfl) ⟨Nat.le_of_ble_eq_true rfl, Nat.le_of_ble_eq_true rfl⟩ rfl (Nat.le_of_ble_eq_true rfl) (fun σ' z3 x3 => ?_)))))
      obtain ⟨hs_, x3⟩ := x3
      rw [hs_]; clear hs_ σ'
      refine ok_goto 15 35 rfl rfl rfl (ok_iret 17 rfl rfl rfl ?_)
      refine ⟨_, rfl, rfl, ?_⟩
      unfold prS
      first | (rw [if_pos (by omega)]; omega) | (rw [if_neg (by omega)])
def wtS (N m : Int) (wt : Int → Int) (k w z : Int) : Prop := z = @ite Int ((0 ≤ k ∧ k < N) ∧ 0 ≤ w ∧ w ≤ 2) (Classical.propDecidable _) (if w = 0 then wt k else if w = 1 then wt k / (Int.gcd m (wt k) : Int) else m / (Int.gcd m (wt k) : Int)) (-1)
theorem t_Ev_weight {σ : eS} {k w : Int} (h : IA σ) : MtI shA M_Ev_weight [vr 0, vi k, vi w] σ (fun σ' z => σ' = σ ∧ (1 ≤ σ 22 6 → wtS (σ 22 5) (σ 22 6) (wA σ) k w z) ∧ (σ 22 5 = 0 → z = -1)) := by
  refine Mt.of okM_Ev_weight (Nat.le_of_ble_eq_true rfl) (fun hk hg => ?_)
  have hm := h.2.2.2.1
  obtain ⟨⟨h1, h2, h3, h4, h5, h6, h7⟩, a, b, d⟩ := id hm
  have e : wA σ k = σ 23 k := rfl
  refine ok_aload_n 0 rfl rfl rfl (ok_getR 1 rfl rfl fl_X11_48 rfl rfl (ok_iload_n 2 rfl rfl rfl (ok_callVI (M' := M_Mi_hasPart) (as := [_]) 3 rfl rfl ml_X11_181 (s_Mi_hasPart) rfl rfl (Nat.le_of_ble_eq_true rfl) ⟨Nat.le_of_ble_eq_true rfl, Nat.le_of_ble_eq_true rfl⟩ rfl (Nat.le_of_ble_eq_true rfl) (fun σ' z1 x1 => ?_))))
  obtain ⟨hs_, x1⟩ := x1
  rw [hs_]; clear hs_ σ'
  refine ok_if_eq 4 20 rfl rfl rfl (fun h8 => ?_) (fun h8 => ?_)
  · refine ok_iconst 10 rfl rfl (by decide) (ok_iret 11 rfl rfl rfl ?_)
    exact ⟨_, rfl, rfl, fun _ => by unfold wtS; rw [if_neg (by omega)], fun _ => rfl⟩
  · refine ok_iload_n 5 rfl rfl rfl (ok_if_lt 6 20 rfl rfl rfl (fun h12 => ?_) (fun h12 => ?_))
    · refine ok_iconst 10 rfl rfl (by decide) (ok_iret 11 rfl rfl rfl ?_)
      exact ⟨_, rfl, rfl, fun _ => by unfold wtS; rw [if_neg (by omega)], fun _ => rfl⟩
    · refine ok_iload_n 7 rfl rfl rfl (ok_iconst 8 rfl rfl (by decide) (ok_icmp_le 9 22 rfl rfl rfl (fun h17 => ?_) (fun h17 => ?_)))
      · have w0 := mi_bd hm (k := k) (by omega) (by omega)
        refine ok_aload_n 12 rfl rfl rfl (ok_getR 13 rfl rfl fl_X11_48 rfl rfl (ok_getR 14 rfl rfl fl_X11_191 rfl rfl (ok_iload_n 15 rfl rfl rfl (ok_iald 16 rfl rfl rfl (by first | omega | (simp [up_if]; omega) | (simp [up_if] at *; omega)) (ok_ist3 17 rfl rfl rfl (ok_iload_n 18 rfl rfl rfl (ok_if_ne 19 40 rfl rfl rfl (fun h33 => ?_) (fun h33 => ?_))))))))
        · refine ok_aload_n 22 rfl rfl rfl (ok_getR 23 rfl rfl fl_X11_48 rfl rfl (ok_iload_n 24 rfl rfl rfl (ok_iload_n 25 rfl rfl rfl (ok_iconst 26 rfl rfl (by decide) (ok_icmp_ne 27 54 rfl rfl rfl (fun h47 => ?_) (fun h47 => ?_))))))
          · refine ok_iconst 30 rfl rfl (by decide) (ok_callVI (M' := M_Mi_inLeastTerms) (as := [_, _]) 31 rfl rfl ml_X11_194 (t_Mi_inLeastTerms hm ⟨by omega, by omega⟩) rfl rfl (Nat.le_of_ble_eq_true rfl) ⟨Nat.le_of_ble_eq_true rfl, Nat.le_of_ble_eq_true rfl⟩ rfl (Nat.le_of_ble_eq_true rfl) (fun σ' z3 x3 => ?_))
            obtain ⟨hs_, x3⟩ := x3
            rw [hs_]; clear hs_ σ'
            refine ok_iret 32 rfl rfl rfl ?_
            refine ⟨_, rfl, rfl, fun q => ?_, fun q => by omega⟩
            unfold wtS
            rw [if_pos (by omega)]
            first
              | rw [if_pos (by omega)]; rfl
              | (have y := x3 q; unfold ltS at y; first | rw [if_pos (show (1 : Int) ≠ 0 by decide)] at y | rw [if_neg (show ¬ ((0 : Int) ≠ 0) by decide)] at y
                 rw [y, if_neg (by omega)]; first | (rw [if_pos (by omega)]; done) | (rw [if_neg (by omega)]; done) | (rw [if_pos (by omega)]; rfl) | (rw [if_neg (by omega)]; rfl))
          · refine ok_iconst 28 rfl rfl (by decide) (ok_goto 29 55 rfl rfl rfl (ok_callVI (M' := M_Mi_inLeastTerms) (as := [_, _]) 31 rfl rfl ml_X11_194 (t_Mi_inLeastTerms hm ⟨by omega, by omega⟩) rfl rfl (Nat.le_of_ble_eq_true rfl) ⟨Nat.le_of_ble_eq_true rfl, Nat.le_of_ble_eq_true rfl⟩ rfl (Nat.le_of_ble_eq_true rfl) (fun σ' z3 x3 => ?_)))
            obtain ⟨hs_, x3⟩ := x3
            rw [hs_]; clear hs_ σ'
            refine ok_iret 32 rfl rfl rfl ?_
            refine ⟨_, rfl, rfl, fun q => ?_, fun q => by omega⟩
            unfold wtS
            rw [if_pos (by omega)]
            first
              | rw [if_pos (by omega)]; rfl
              | (have y := x3 q; unfold ltS at y; first | rw [if_pos (show (1 : Int) ≠ 0 by decide)] at y | rw [if_neg (show ¬ ((0 : Int) ≠ 0) by decide)] at y
                 rw [y, if_neg (by omega)]; first | (rw [if_pos (by omega)]; done) | (rw [if_neg (by omega)]; done) | (rw [if_pos (by omega)]; rfl) | (rw [if_neg (by omega)]; rfl))
        · refine ok_iload_n 20 rfl rfl rfl (ok_goto 21 58 rfl rfl rfl (ok_iret 32 rfl rfl rfl ?_))
          refine ⟨_, rfl, rfl, fun q => ?_, fun q => by omega⟩
          unfold wtS
          rw [if_pos (by omega)]
          first
            | rw [if_pos (by omega)]; rfl
            | (have y := x3 q; unfold ltS at y; first | rw [if_pos (show (1 : Int) ≠ 0 by decide)] at y | rw [if_neg (show ¬ ((0 : Int) ≠ 0) by decide)] at y
               rw [y, if_neg (by omega)]; first | (rw [if_pos (by omega)]; done) | (rw [if_neg (by omega)]; done) | (rw [if_pos (by omega)]; rfl) | (rw [if_neg (by omega)]; rfl))
      · refine ok_iconst 10 rfl rfl (by decide) (ok_iret 11 rfl rfl rfl ?_)
        exact ⟨_, rfl, rfl, fun _ => by unfold wtS; rw [if_neg (by omega)], fun _ => rfl⟩
theorem t_Ev_draw {σ : eS} {r : Int} (h : IA σ) : MtI shA M_Ev_draw [vr 0, vi r] σ (fun σ' z => σ' = σ ∧ drS (σ 22 5) (wA σ) r z) := by
  refine Mt.of okM_Ev_draw (Nat.le_of_ble_eq_true rfl) (fun hk hg => ?_)
  refine ok_aload_n 0 rfl rfl rfl (ok_getR 1 rfl rfl fl_X11_48 rfl rfl (ok_iload_n 2 rfl rfl rfl (ok_callVI (M' := M_Mi_partAt) (as := [_]) 3 rfl rfl ml_X11_198 (t_Mi_partAt h.2.2.2.1) rfl rfl (Nat.le_of_ble_eq_true rfl) ⟨Nat.le_of_ble_eq_true rfl, Nat.le_of_ble_eq_true rfl⟩ rfl (Nat.le_of_ble_eq_true rfl) (fun σ' z1 x1 => ?_))))
  obtain ⟨hs_, x1⟩ := x1
  rw [hs_]; clear hs_ σ'
  refine ok_iret 4 rfl rfl rfl ?_
  exact ⟨_, rfl, rfl, x1⟩
def okJ4 (n i j k l w : Int) : Prop := (0 ≤ i ∧ i < n) ∧ (0 ≤ j ∧ j < n) ∧ (0 ≤ k ∧ k < n) ∧ (0 ≤ l ∧ l < n) ∧ 0 ≤ w ∧ w ≤ 1
def jtS (N n m : Int) (wt : Int → Int) (col : Int → Int → Int) (i j k l w z : Int) : Prop := z = @ite Int (okJ4 n i j k l w) (Classical.propDecidable _) (if w = 0 then twS N wt col i j k l / (Int.gcd m (twS N wt col i j k l) : Int) else m / (Int.gcd m (twS N wt col i j k l) : Int)) (-1)
theorem t_Ev_joint {σ : eS} {i j k l w : Int} (h : IA σ) : MtI shA M_Ev_joint [vr 0, vi i, vi j, vi k, vi l, vi w] σ (fun σ' z => σ' = σ ∧ (1 ≤ σ 22 6 → jtS (σ 22 5) (σ 22 4) (σ 22 6) (wA σ) (kA σ) i j k l w z) ∧ (σ 22 4 = 0 → z = -1)) := by
  refine Mt.of okM_Ev_joint (Nat.le_of_ble_eq_true rfl) (fun hk hg => ?_)
  have hm := h.2.2.2.1
  obtain ⟨⟨h1, h2, h3, h4, h5, h6, h7⟩, a, b, d⟩ := id hm
  have tb := twS_bd (N := σ 22 5) (wt := wA σ) (col := kA σ) (i := i) (j := j) (k := k) (l := l) a
  have td : sm (wA σ) (σ 22 5).toNat ≤ σ 22 6 := d
  refine ok_aload_n 0 rfl rfl rfl (ok_getR 1 rfl rfl fl_X11_48 rfl rfl (ok_iload_n 2 rfl rfl rfl (ok_callVI (M' := M_Mi_hasRow) (as := [_]) 3 rfl rfl ml_X11_184 (s_Mi_hasRow) rfl rfl (Nat.le_of_ble_eq_true rfl) ⟨Nat.le_of_ble_eq_true rfl, Nat.le_of_ble_eq_true rfl⟩ rfl (Nat.le_of_ble_eq_true rfl) (fun σ' z1 x1 => ?_))))
  obtain ⟨hs_, x1⟩ := x1
  rw [hs_]; clear hs_ σ'
  refine ok_if_eq 4 45 rfl rfl rfl (fun h8 => ?_) (fun h8 => ?_)
  · refine ok_iconst 20 rfl rfl (by decide) (ok_iret 21 rfl rfl rfl ?_)
    exact ⟨_, rfl, rfl, fun _ => by unfold jtS okJ4; rw [if_neg (by omega)], fun _ => rfl⟩
  · refine ok_aload_n 5 rfl rfl rfl (ok_getR 6 rfl rfl fl_X11_48 rfl rfl (ok_iload_n 7 rfl rfl rfl (ok_callVI (M' := M_Mi_hasRow) (as := [_]) 8 rfl rfl ml_X11_184 (s_Mi_hasRow) rfl rfl (Nat.le_of_ble_eq_true rfl) ⟨Nat.le_of_ble_eq_true rfl, Nat.le_of_ble_eq_true rfl⟩ rfl (Nat.le_of_ble_eq_true rfl) (fun σ' z2 x2 => ?_))))
    obtain ⟨hs_, x2⟩ := x2
    rw [hs_]; clear hs_ σ'
    refine ok_if_eq 9 45 rfl rfl rfl (fun h19 => ?_) (fun h19 => ?_)
    · refine ok_iconst 20 rfl rfl (by decide) (ok_iret 21 rfl rfl rfl ?_)
      exact ⟨_, rfl, rfl, fun _ => by unfold jtS okJ4; rw [if_neg (by omega)], fun _ => rfl⟩
    · refine ok_aload_n 10 rfl rfl rfl (ok_getR 11 rfl rfl fl_X11_48 rfl rfl (ok_iload_n 12 rfl rfl rfl (ok_callVI (M' := M_Mi_hasRow) (as := [_]) 13 rfl rfl ml_X11_184 (s_Mi_hasRow) rfl rfl (Nat.le_of_ble_eq_true rfl) ⟨Nat.le_of_ble_eq_true rfl, Nat.le_of_ble_eq_true rfl⟩ rfl (Nat.le_of_ble_eq_true rfl) (fun σ' z3 x3 => ?_))))
      obtain ⟨hs_, x3⟩ := x3
      rw [hs_]; clear hs_ σ'
      refine ok_if_eq 14 45 rfl rfl rfl (fun h30 => ?_) (fun h30 => ?_)
      · refine ok_iconst 20 rfl rfl (by decide) (ok_iret 21 rfl rfl rfl ?_)
        exact ⟨_, rfl, rfl, fun _ => by unfold jtS okJ4; rw [if_neg (by omega)], fun _ => rfl⟩
      · refine ok_aload_n 15 rfl rfl rfl (ok_getR 16 rfl rfl fl_X11_48 rfl rfl (ok_iload 17 rfl rfl rfl (ok_callVI (M' := M_Mi_hasRow) (as := [_]) 18 rfl rfl ml_X11_184 (s_Mi_hasRow) rfl rfl (Nat.le_of_ble_eq_true rfl) ⟨Nat.le_of_ble_eq_true rfl, Nat.le_of_ble_eq_true rfl⟩ rfl (Nat.le_of_ble_eq_true rfl) (fun σ' z4 x4 => ?_))))
        obtain ⟨hs_, x4⟩ := x4
        rw [hs_]; clear hs_ σ'
        refine ok_if_ne 19 47 rfl rfl rfl (fun h42 => ?_) (fun h42 => ?_)
        · refine ok_iload 22 rfl rfl rfl (ok_if_lt 23 58 rfl rfl rfl (fun h49 => ?_) (fun h49 => ?_))
          · refine ok_iconst 27 rfl rfl (by decide) (ok_iret 28 rfl rfl rfl ?_)
            exact ⟨_, rfl, rfl, fun _ => by unfold jtS okJ4; rw [if_neg (by omega)], fun _ => rfl⟩
          · refine ok_iload 24 rfl rfl rfl (ok_iconst 25 rfl rfl (by decide) (ok_icmp_le 26 60 rfl rfl rfl (fun h55 => ?_) (fun h55 => ?_)))
            · refine ok_aload_n 29 rfl rfl rfl (ok_getR 30 rfl rfl fl_X11_48 rfl rfl (ok_aload_n 31 rfl rfl rfl (ok_getR 32 rfl rfl fl_X11_48 rfl rfl (ok_iload_n 33 rfl rfl rfl (ok_iload_n 34 rfl rfl rfl (ok_iload_n 35 rfl rfl rfl (ok_iload 36 rfl rfl rfl (ok_callVI (M' := M_Mi_weightOfBoth) (as := [_, _, _, _]) 37 rfl rfl ml_X11_201 (t_Mi_weightOfBoth hm ⟨by omega, by omega⟩ ⟨by omega, by omega⟩) rfl rfl (Nat.le_of_ble_eq_true rfl) ⟨Nat.le_of_ble_eq_true rfl, Nat.le_of_ble_eq_true rfl⟩ rfl (Nat.le_of_ble_eq_true rfl) (fun σ' z hz => ?_)))))))))
              rw [hz.1, hz.2]
              clear hz z σ'
              refine ok_iload 38 rfl rfl rfl (ok_if_ne 39 85 rfl rfl rfl (fun h78 => ?_) (fun h78 => ?_))
              · refine ok_iconst 42 rfl rfl (by decide) (ok_callVI (M' := M_Mi_inLeastTerms) (as := [_, _]) 43 rfl rfl ml_X11_194 (t_Mi_inLeastTerms hm ⟨by omega, by omega⟩) rfl rfl (Nat.le_of_ble_eq_true rfl) ⟨Nat.le_of_ble_eq_true rfl, Nat.le_of_ble_eq_true rfl⟩ rfl (Nat.le_of_ble_eq_true rfl) (fun σ' z6 x6 => ?_))
                obtain ⟨hs_, x6⟩ := x6
                rw [hs_]; clear hs_ σ'
                refine ok_iret 44 rfl rfl rfl ?_
                refine ⟨_, rfl, rfl, fun q => ?_, fun q => by omega⟩
                have y := x6 q
                unfold ltS at y
                first | rw [if_pos (show (1 : Int) ≠ 0 by decide)] at y | rw [if_neg (show ¬ ((0 : Int) ≠ 0) by decide)] at y
                unfold jtS okJ4
                rw [y, if_pos (by omega)]
                first | rw [if_pos (by omega)] | rw [if_neg (by omega)]
              · refine ok_iconst 40 rfl rfl (by decide) (ok_goto 41 86 rfl rfl rfl (ok_callVI (M' := M_Mi_inLeastTerms) (as := [_, _]) 43 rfl rfl ml_X11_194 (t_Mi_inLeastTerms hm ⟨by omega, by omega⟩) rfl rfl (Nat.le_of_ble_eq_true rfl) ⟨Nat.le_of_ble_eq_true rfl, Nat.le_of_ble_eq_true rfl⟩ rfl (Nat.le_of_ble_eq_true rfl) (fun σ' z6 x6 => ?_)))
                obtain ⟨hs_, x6⟩ := x6
                rw [hs_]; clear hs_ σ'
                refine ok_iret 44 rfl rfl rfl ?_
                refine ⟨_, rfl, rfl, fun q => ?_, fun q => by omega⟩
                have y := x6 q
                unfold ltS at y
                first | rw [if_pos (show (1 : Int) ≠ 0 by decide)] at y | rw [if_neg (show ¬ ((0 : Int) ≠ 0) by decide)] at y
                unfold jtS okJ4
                rw [y, if_pos (by omega)]
                first | rw [if_pos (by omega)] | rw [if_neg (by omega)]
            · refine ok_iconst 27 rfl rfl (by decide) (ok_iret 28 rfl rfl rfl ?_)
              exact ⟨_, rfl, rfl, fun _ => by unfold jtS okJ4; rw [if_neg (by omega)], fun _ => rfl⟩
        · refine ok_iconst 20 rfl rfl (by decide) (ok_iret 21 rfl rfl rfl ?_)
          exact ⟨_, rfl, rfl, fun _ => by unfold jtS okJ4; rw [if_neg (by omega)], fun _ => rfl⟩
def mtS (N n : Int) (wt : Int → Int) (col : Int → Int → Int) (r w z : Int) : Prop := (z = -1 ∧ ¬ ((0 ≤ r ∧ r < n) ∧ 0 ≤ w ∧ w ≤ 2)) ∨ (((0 ≤ r ∧ r < n) ∧ 0 ≤ w ∧ w ≤ 2) ∧ ((w = 2 ∧ ∃ s, seS N col r s ∧ z = pc s) ∨ (w ≠ 2 ∧ ∃ b, mxS (fun c => twS N wt col r c r c) n b ∧ z = if w = 0 then b else twS N wt col r b r b)))
theorem t_Ev_most {σ : eS} {r w : Int} (h : IA σ) : MtI shA M_Ev_most [vr 0, vi r, vi w] σ (fun σ' z => σ' = σ ∧ mtS (σ 22 5) (σ 22 4) (wA σ) (kA σ) r w z) := by
  refine Mt.of okM_Ev_most (Nat.le_of_ble_eq_true rfl) (fun hk hg => ?_)
  have hm := h.2.2.2.1
  obtain ⟨⟨h1, h2, h3, h4, h5, h6, h7⟩, a, b, d⟩ := id hm
  refine ok_aload_n 0 rfl rfl rfl (ok_getR 1 rfl rfl fl_X11_48 rfl rfl (ok_iload_n 2 rfl rfl rfl (ok_callVI (M' := M_Mi_hasRow) (as := [_]) 3 rfl rfl ml_X11_184 (s_Mi_hasRow) rfl rfl (Nat.le_of_ble_eq_true rfl) ⟨Nat.le_of_ble_eq_true rfl, Nat.le_of_ble_eq_true rfl⟩ rfl (Nat.le_of_ble_eq_true rfl) (fun σ' z1 x1 => ?_))))
  obtain ⟨hs_, x1⟩ := x1
  rw [hs_]; clear hs_ σ'
  refine ok_if_eq 4 20 rfl rfl rfl (fun h8 => ?_) (fun h8 => ?_)
  · refine ok_iconst 10 rfl rfl (by decide) (ok_iret 11 rfl rfl rfl ?_)
    exact ⟨_, rfl, rfl, Or.inl ⟨rfl, by omega⟩⟩
  · refine ok_iload_n 5 rfl rfl rfl (ok_if_lt 6 20 rfl rfl rfl (fun h12 => ?_) (fun h12 => ?_))
    · refine ok_iconst 10 rfl rfl (by decide) (ok_iret 11 rfl rfl rfl ?_)
      exact ⟨_, rfl, rfl, Or.inl ⟨rfl, by omega⟩⟩
    · refine ok_iload_n 7 rfl rfl rfl (ok_iconst 8 rfl rfl (by decide) (ok_icmp_le 9 22 rfl rfl rfl (fun h17 => ?_) (fun h17 => ?_)))
      · refine ok_iload_n 12 rfl rfl rfl (ok_iconst 13 rfl rfl (by decide) (ok_icmp_ne 14 36 rfl rfl rfl (fun h24 => ?_) (fun h24 => ?_)))
        · refine ok_aload_n 20 rfl rfl rfl (ok_getR 21 rfl rfl fl_X11_48 rfl rfl (ok_iload_n 22 rfl rfl rfl (ok_callVI (M' := M_Mi_commonestColumn) (as := [_]) 23 rfl rfl ml_X11_273 (t_Mi_commonestColumn hm ⟨by omega, by omega⟩) rfl rfl (Nat.le_of_ble_eq_true rfl) ⟨Nat.le_of_ble_eq_true rfl, Nat.le_of_ble_eq_true rfl⟩ rfl (Nat.le_of_ble_eq_true rfl) (fun σ' z3 x3 => ?_))))
          obtain ⟨hs_, x3⟩ := x3
          rw [hs_]; clear hs_ σ'
          refine ok_ist3 24 rfl rfl rfl (ok_iload_n 25 rfl rfl rfl (ok_if_ne 26 53 rfl rfl rfl (fun h46 => ?_) (fun h46 => ?_)))
          · refine ok_aload_n 29 rfl rfl rfl (ok_getR 30 rfl rfl fl_X11_48 rfl rfl (ok_iload_n 31 rfl rfl rfl (ok_iload_n 32 rfl rfl rfl (ok_callVI (M' := M_Mi_weightOf) (as := [_, _]) 33 rfl rfl ml_X11_276 (t_Mi_weightOf hm ⟨by omega, by omega⟩) rfl rfl (Nat.le_of_ble_eq_true rfl) ⟨Nat.le_of_ble_eq_true rfl, Nat.le_of_ble_eq_true rfl⟩ rfl (Nat.le_of_ble_eq_true rfl) (fun σ' z hz => ?_)))))
            rw [hz.1, hz.2]
            clear hz z σ'
            refine ok_iret 34 rfl rfl rfl ?_
            refine ⟨_, rfl, rfl, Or.inr ⟨by omega, Or.inr ⟨by omega, z3, x3, ?_⟩⟩⟩
            first | rw [if_pos (by omega)] | rw [if_neg (by omega)]
          · refine ok_iload_n 27 rfl rfl rfl (ok_goto 28 62 rfl rfl rfl (ok_iret 34 rfl rfl rfl ?_))
            refine ⟨_, rfl, rfl, Or.inr ⟨by omega, Or.inr ⟨by omega, z3, x3, ?_⟩⟩⟩
            first | rw [if_pos (by omega)] | rw [if_neg (by omega)]
        · refine ok_aload_n 15 rfl rfl rfl (ok_getR 16 rfl rfl fl_X11_48 rfl rfl (ok_iload_n 17 rfl rfl rfl (ok_callVI (M' := M_Mi_countColumns) (as := [_]) 18 rfl rfl ml_X11_270 (t_Mi_countColumns hm ⟨by omega, by omega⟩) rfl rfl (Nat.le_of_ble_eq_true rfl) ⟨Nat.le_of_ble_eq_true rfl, Nat.le_of_ble_eq_true rfl⟩ rfl (Nat.le_of_ble_eq_true rfl) (fun σ' z2 x2 => ?_))))
          obtain ⟨hs_, x2⟩ := x2
          rw [hs_]; clear hs_ σ'
          refine ok_iret 19 rfl rfl rfl ?_
          exact ⟨_, rfl, rfl, Or.inr ⟨by omega, Or.inl ⟨by omega, x2⟩⟩⟩
      · refine ok_iconst 10 rfl rfl (by decide) (ok_iret 11 rfl rfl rfl ?_)
        exact ⟨_, rfl, rfl, Or.inl ⟨rfl, by omega⟩⟩
def wkS (N n : Int) (wt : Int → Int) (col : Int → Int → Int) (J : Prop) (j t z : Int) : Prop := (z = -1 ∧ ¬ J) ∨ (J ∧ ∃ p, drS N wt t p ∧ ((p = -1 ∧ z = -1) ∨ (0 ≤ p ∧ z = if col p j < n then col p j else -1)))
theorem t_Ev_works {σ : eS} {j t : Int} (h : IA σ) : MtI shA M_Ev_works [vr 0, vi j, vi t] σ (fun σ' z => σ' = σ ∧ wkS (σ 22 5) (σ 22 3) (wA σ) (kA σ) (σ 22 2 = 2 ∧ 0 ≤ j ∧ j < σ 22 3) j t z) := by
  refine Mt.of okM_Ev_works (Nat.le_of_ble_eq_true rfl) (fun hk hg => ?_)
  have hm := h.2.2.2.1
  obtain ⟨⟨h1, h2, h3, h4, h5, h6, h7⟩, a, b, d⟩ := id hm
  refine ok_aload_n 0 rfl rfl rfl (ok_getR 1 rfl rfl fl_X11_48 rfl rfl (ok_iload_n 2 rfl rfl rfl (ok_callVI (M' := M_Mi_hasJob) (as := [_]) 3 rfl rfl ml_X11_300 (s_Mi_hasJob) rfl rfl (Nat.le_of_ble_eq_true rfl) ⟨Nat.le_of_ble_eq_true rfl, Nat.le_of_ble_eq_true rfl⟩ rfl (Nat.le_of_ble_eq_true rfl) (fun σ' z1 x1 => ?_))))
  obtain ⟨hs_, x1⟩ := x1
  rw [hs_]; clear hs_ σ'
  refine ok_if_ne 4 13 rfl rfl rfl (fun h8 => ?_) (fun h8 => ?_)
  · refine ok_aload_n 7 rfl rfl rfl (ok_getR 8 rfl rfl fl_X11_48 rfl rfl (ok_iload_n 9 rfl rfl rfl (ok_callVI (M' := M_Mi_partAt) (as := [_]) 10 rfl rfl ml_X11_198 (t_Mi_partAt hm) rfl rfl (Nat.le_of_ble_eq_true rfl) ⟨Nat.le_of_ble_eq_true rfl, Nat.le_of_ble_eq_true rfl⟩ rfl (Nat.le_of_ble_eq_true rfl) (fun σ' z2 x2 => ?_))))
    obtain ⟨hs_, x2⟩ := x2
    rw [hs_]; clear hs_ σ'
    have x3 : z2 = -1 ∨ (0 ≤ z2 ∧ z2 < σ 22 5) := by
      rcases id x2 with ⟨q, -⟩ | ⟨q, -⟩
      · exact Or.inl q
      · exact Or.inr q
    refine ok_ist3 11 rfl rfl rfl (ok_iload_n 12 rfl rfl rfl (ok_iconst 13 rfl rfl (by decide) (ok_icmp_ne 14 31 rfl rfl rfl (fun h24 => ?_) (fun h24 => ?_))))
    · refine ok_aload_n 17 rfl rfl rfl (ok_getR 18 rfl rfl fl_X11_48 rfl rfl (ok_iload_n 19 rfl rfl rfl (ok_iload_n 20 rfl rfl rfl (ok_callVI (M' := M_Mi_machineOf) (as := [_, _]) 21 rfl rfl ml_X11_303 (t_Mi_machineOf hm ⟨by omega, by omega⟩ ⟨by omega, by omega⟩) rfl rfl (Nat.le_of_ble_eq_true rfl) ⟨Nat.le_of_ble_eq_true rfl, Nat.le_of_ble_eq_true rfl⟩ rfl (Nat.le_of_ble_eq_true rfl) (fun σ' z3 x4 => ?_)))))
      obtain ⟨hs_, x4⟩ := x4
      rw [hs_]; clear hs_ σ'
      refine ok_iret 22 rfl rfl rfl ?_
      refine ⟨_, rfl, rfl, Or.inr ⟨by omega, z2, x2, ?_⟩⟩
      first | exact Or.inl ⟨by omega, rfl⟩ | exact Or.inr ⟨by omega, x4⟩
    · refine ok_iconst 15 rfl rfl (by decide) (ok_goto 16 40 rfl rfl rfl (ok_iret 22 rfl rfl rfl ?_))
      refine ⟨_, rfl, rfl, Or.inr ⟨by omega, z2, x2, ?_⟩⟩
      first | exact Or.inl ⟨by omega, rfl⟩ | exact Or.inr ⟨by omega, x4⟩
  · refine ok_iconst 5 rfl rfl (by decide) (ok_iret 6 rfl rfl rfl ?_)
    exact ⟨_, rfl, rfl, Or.inl ⟨rfl, by omega⟩⟩
theorem t_Ev_kept {σ : eS} {w : Int} : MtI shA M_Ev_kept [vr 0, vi w] σ (fun σ' z => σ' = σ ∧ z = if w = 0 then σ 22 2 else if w = 1 then σ 22 5 else if w = 2 then σ 22 6 else if w = 3 then σ 22 3 else if w = 4 then σ 10 3 else -1) := by
  refine Mt.of okM_Ev_kept (Nat.le_of_ble_eq_true rfl) (fun hk hg => ?_)
  refine ok_iload_n 0 rfl rfl rfl ?_
  rcases (by omega : w = 0 ∨ w = 1 ∨ w = 2 ∨ w = 3 ∨ w = 4 ∨ (w < 0 ∨ 4 < w)) with q_ | q_ | q_ | q_ | q_ | q_
  · subst q_
    refine ok_tin 1 (len := 35) 36 rfl rfl (by decide) (by decide) rfl rfl ?_
    refine ok_aload_n 2 rfl rfl rfl (ok_getR 3 rfl rfl fl_X11_48 rfl rfl (ok_getI 4 rfl rfl fl_X11_315 rfl rfl (Or.inl rfl) (ok_iret 5 rfl rfl rfl ?_)))
    refine ⟨_, rfl, rfl, ?_⟩
    first
      | rfl
      | (rw [if_neg (by omega), if_neg (by omega), if_neg (by omega), if_neg (by omega), if_neg (by omega)])
  · subst q_
    refine ok_tin 1 (len := 35) 44 rfl rfl (by decide) (by decide) rfl rfl ?_
    refine ok_aload_n 6 rfl rfl rfl (ok_getR 7 rfl rfl fl_X11_48 rfl rfl (ok_getI 8 rfl rfl fl_X11_318 rfl rfl (Or.inl rfl) (ok_iret 9 rfl rfl rfl ?_)))
    refine ⟨_, rfl, rfl, ?_⟩
    first
      | rfl
      | (rw [if_neg (by omega), if_neg (by omega), if_neg (by omega), if_neg (by omega), if_neg (by omega)])
  · subst q_
    refine ok_tin 1 (len := 35) 52 rfl rfl (by decide) (by decide) rfl rfl ?_
    refine ok_aload_n 10 rfl rfl rfl (ok_getR 11 rfl rfl fl_X11_48 rfl rfl (ok_getI 12 rfl rfl fl_X11_321 rfl rfl (Or.inl rfl) (ok_iret 13 rfl rfl rfl ?_)))
    refine ⟨_, rfl, rfl, ?_⟩
    first
      | rfl
      | (rw [if_neg (by omega), if_neg (by omega), if_neg (by omega), if_neg (by omega), if_neg (by omega)])
  · subst q_
    refine ok_tin 1 (len := 35) 60 rfl rfl (by decide) (by decide) rfl rfl ?_
    refine ok_aload_n 14 rfl rfl rfl (ok_getR 15 rfl rfl fl_X11_48 rfl rfl (ok_getI 16 rfl rfl fl_X11_324 rfl rfl (Or.inl rfl) (ok_iret 17 rfl rfl rfl ?_)))
    refine ⟨_, rfl, rfl, ?_⟩
    first
      | rfl
      | (rw [if_neg (by omega), if_neg (by omega), if_neg (by omega), if_neg (by omega), if_neg (by omega)])
  · subst q_
    refine ok_tin 1 (len := 35) 68 rfl rfl (by decide) (by decide) rfl rfl ?_
    refine ok_aload_n 18 rfl rfl rfl (ok_getR 19 rfl rfl fl_X11_18 rfl rfl (ok_getI 20 rfl rfl fl_X11_82 rfl rfl (Or.inl rfl) (ok_iret 21 rfl rfl rfl ?_)))
    refine ⟨_, rfl, rfl, ?_⟩
    first
      | rfl
      | (rw [if_neg (by omega), if_neg (by omega), if_neg (by omega), if_neg (by omega), if_neg (by omega)])
  · refine ok_tout 1 (len := 35) 76 rfl rfl q_ rfl ?_
    refine ok_iconst 22 rfl rfl (by decide) (ok_iret 23 rfl rfl rfl ?_)
    refine ⟨_, rfl, rfl, ?_⟩
    first
      | rfl
      | (rw [if_neg (by omega), if_neg (by omega), if_neg (by omega), if_neg (by omega), if_neg (by omega)])
end
section
/-! THE PARTS KEPT, asked: the reference -/
theorem wB_nn {σ : eS} (h : iK σ) : ∀ q, 0 ≤ q → q < σ 0 27 → 0 ≤ wB σ q := fun q a b => by
  have := h.2.2.2.2.2.2.1.1 q a b
  unfold wB
  omega
theorem wB_sum {σ : eS} (h : iK σ) : sm (wB σ) (σ 0 27).toNat = σ 0 29 := h.2.2.2.2.2.2.1.2
theorem t_Mo_weight {σ : eS} {k w : Int} (h : iK σ) : MtI shB M_Mo_weight [vr 0, vi k, vi w] σ (fun σ' z => σ' = σ ∧ wtS (σ 0 27) (σ 0 29) (wB σ) k w z) := by
  refine Mt.of okM_Mo_weight (Nat.le_of_ble_eq_true rfl) (fun hk hg => ?_)
  obtain ⟨h1, h2, h3, h4, h5, h6, -⟩ := id h
  have e : wB σ k = σ 12 k := rfl
  refine ok_aload_n 0 rfl rfl rfl (ok_iload_n 1 rfl rfl rfl (ok_callVI (M' := M_Mo_isPartThere) (as := [_]) 2 rfl rfl ml_X12_300 (s_Mo_isPartThere h) rfl rfl (Nat.le_of_ble_eq_true rfl) ⟨Nat.le_of_ble_eq_true rfl, Nat.le_of_ble_eq_true rfl⟩ rfl (Nat.le_of_ble_eq_true rfl) (fun σ' z1 a1 => ?_)))
  obtain ⟨hs_, a1⟩ := a1
  rw [hs_]; clear hs_ σ'
  refine ok_if_eq 3 20 rfl rfl rfl (fun h5 => ?_) (fun h5 => ?_)
  · refine ok_iconst 10 rfl rfl (by decide) (ok_iret 11 rfl rfl rfl ?_)
    exact ⟨_, rfl, rfl, by unfold wtS; rw [if_neg (by omega)]⟩
  · refine ok_iload_n 4 rfl rfl rfl (ok_i2l 5 rfl rfl (ok_lconst (w := 0) 6 rfl rfl rfl (by decide) (ok_ldc2 7 (2) rfl rfl kc_X12_306 (by decide) (ok_callSI (M' := M_Mo_isIn) (as := [_, _, _]) 8 rfl rfl ml_X12_99 (s_Mo_isIn_r) ⟨Nat.le_of_ble_eq_true rfl, Nat.le_of_ble_eq_true rfl⟩ rfl (Nat.le_of_ble_eq_true rfl) (fun σ' z2 a2 => ?_)))))
    obtain ⟨hs_, a2⟩ := a2
    rw [hs_]; clear hs_ σ'
    refine ok_if_ne 9 22 rfl rfl rfl (fun h17 => ?_) (fun h17 => ?_)
    · have hk := yes1 a1 h5
      obtain ⟨w1, w2⟩ := wt_le h hk.1 hk.2
      obtain ⟨c1, c2⟩ := gcd_pos (a := σ 12 k) (b := σ 0 29) (by omega)
      have gc : (Int.gcd (σ 0 29) (wB σ k) : Int) = (Int.gcd (σ 12 k) (σ 0 29) : Int) := by rw [e, Int.gcd_comm]
      refine ok_aload_n 12 rfl rfl rfl (ok_getR 13 rfl rfl fl_X12_48 rfl rfl (ok_iload_n 14 rfl rfl rfl (ok_iald 15 rfl rfl rfl (by first | omega | (simp [up_if]; omega) | (simp [up_if] at *; omega)) (ok_i2l 16 rfl rfl (ok_aload_n 17 rfl rfl rfl (ok_getI 18 rfl rfl fl_X12_279 rfl rfl (Or.inl rfl) (ok_i2l 19 rfl rfl (ok_callSL (M' := M_Mo_common) (as := [_, _]) 20 rfl rfl ml_X12_89 (s_Mo_common (by omega) (by omega)) ⟨Nat.le_of_ble_eq_true rfl, Nat.le_of_ble_eq_true rfl⟩ rfl (Nat.le_of_ble_eq_true rfl) (fun σ' z hz => ?_)))))))))
      rw [hz.1, hz.2]
      clear hz z σ'
      refine ok_l2i 21 rfl rfl (by first | omega | (simp [up_if]; omega) | (simp [up_if] at *; omega)) (ok_ist3 22 rfl rfl rfl (ok_iload_n 23 rfl rfl rfl (ok_if_ne 24 52 rfl rfl rfl (fun h40 => ?_) (fun h40 => ?_))))
      · refine ok_iload_n 30 rfl rfl rfl (ok_iconst 31 rfl rfl (by decide) (ok_icmp_ne 32 68 rfl rfl rfl (fun h54 => ?_) (fun h54 => ?_)))
        · refine ok_aload_n 40 rfl rfl rfl (ok_getI 41 rfl rfl fl_X12_279 rfl rfl (Or.inl rfl) (ok_iload_n 42 rfl rfl rfl (ok_idiv 43 rfl rfl (by omega) (by omega) (ok_iret 44 rfl rfl rfl ?_))))
          refine ⟨_, rfl, rfl, ?_⟩
          unfold wtS
          rw [if_pos (by omega), gc]
          first
            | (rw [if_pos (by omega)]; rfl)
            | (rw [if_neg (by omega), if_pos (by omega)]; rfl)
            | (rw [if_neg (by omega), if_neg (by omega)])
        · refine ok_aload_n 33 rfl rfl rfl (ok_getR 34 rfl rfl fl_X12_48 rfl rfl (ok_iload_n 35 rfl rfl rfl (ok_iald 36 rfl rfl rfl (by first | omega | (simp [up_if]; omega) | (simp [up_if] at *; omega)) (ok_iload_n 37 rfl rfl rfl (ok_idiv 38 rfl rfl (by omega) (by omega) (ok_goto 39 74 rfl rfl rfl (ok_iret 44 rfl rfl rfl ?_)))))))
          refine ⟨_, rfl, rfl, ?_⟩
          unfold wtS
          rw [if_pos (by omega), gc]
          first
            | (rw [if_pos (by omega)]; rfl)
            | (rw [if_neg (by omega), if_pos (by omega)]; rfl)
            | (rw [if_neg (by omega), if_neg (by omega)])
      · refine ok_aload_n 25 rfl rfl rfl (ok_getR 26 rfl rfl fl_X12_48 rfl rfl (ok_iload_n 27 rfl rfl rfl (ok_iald 28 rfl rfl rfl (by first | omega | (simp [up_if]; omega) | (simp [up_if] at *; omega)) (ok_goto 29 74 rfl rfl rfl (ok_iret 44 rfl rfl rfl ?_)))))
        refine ⟨_, rfl, rfl, ?_⟩
        unfold wtS
        rw [if_pos (by omega), gc]
        first
          | (rw [if_pos (by omega)]; rfl)
          | (rw [if_neg (by omega), if_pos (by omega)]; rfl)
          | (rw [if_neg (by omega), if_neg (by omega)])
    · refine ok_iconst 10 rfl rfl (by decide) (ok_iret 11 rfl rfl rfl ?_)
      exact ⟨_, rfl, rfl, by unfold wtS; rw [if_neg (by omega)]⟩
theorem t_Mo_draw {σ : eS} {r : Int} (h : iK σ) : MtI shB M_Mo_draw [vr 0, vi r] σ (fun σ' z => σ' = σ ∧ drS (σ 0 27) (wB σ) r z) := by
  refine Mt.of okM_Mo_draw (Nat.le_of_ble_eq_true rfl) (fun hk hg => ?_)
  obtain ⟨h1, h2, h3, h4, h5, h6, -⟩ := id h
  have ws := wB_sum h
  refine ok_aload_n 0 rfl rfl rfl (ok_getI 1 rfl rfl fl_X12_273 rfl rfl (Or.inl rfl) (ok_if_eq 2 23 rfl rfl rfl (fun h4 => ?_) (fun h4 => ?_)))
  · refine ok_iconst 13 rfl rfl (by decide) (ok_iret 14 rfl rfl rfl ?_)
    exact ⟨_, rfl, rfl, Or.inl ⟨rfl, by rw [show σ 0 27 = 0 by omega]; show ¬ (0 ≤ r ∧ r < 0); omega⟩⟩
  · refine ok_iload_n 3 rfl rfl rfl (ok_i2l 4 rfl rfl (ok_lconst (w := 0) 5 rfl rfl rfl (by decide) (ok_aload_n 6 rfl rfl rfl (ok_getI 7 rfl rfl fl_X12_279 rfl rfl (Or.inl rfl) (ok_iconst 8 rfl rfl (by decide) (ok_isub 9 rfl rfl (by first | omega | (simp [up_if]; omega) | (simp [up_if] at *; omega)) (ok_i2l 10 rfl rfl (ok_callSI (M' := M_Mo_isIn) (as := [_, _, _]) 11 rfl rfl ml_X12_99 (s_Mo_isIn_r) ⟨Nat.le_of_ble_eq_true rfl, Nat.le_of_ble_eq_true rfl⟩ rfl (Nat.le_of_ble_eq_true rfl) (fun σ' z1 a1 => ?_)))))))))
    obtain ⟨hs_, a1⟩ := a1
    rw [hs_]; clear hs_ σ'
    refine ok_if_ne 12 25 rfl rfl rfl (fun h20 => ?_) (fun h20 => ?_)
    · refine ok_iconst 15 rfl rfl (by decide) (ok_ist2 16 rfl rfl rfl (ok_iload_n 17 rfl rfl rfl (ok_ist3 18 rfl rfl rfl ?_)))
      have hr := yes1 a1 h20
      refine lpO2 (fun k l : Int => [some (vr 0), some (vi r), some (vi k), some (vi l)]) (fun _ _ => σ) (fun k l => 0 ≤ k ∧ k < σ 0 27 ∧ 0 ≤ l ∧ l = r - sm (wB σ) k.toNat) (fun k _ => (64 - k).toNat) ?_ 0 r ⟨by omega, by omega, by omega, by show r = r - 0; omega⟩
      rintro k l ⟨k1, k2, k3, k4⟩ ih
      obtain ⟨w1, w2⟩ := wt_le h k1 k2
      have w3 : 0 ≤ sm (wB σ) k.toNat := (wt_sum h k1 (by omega)).1
      have e : sm (wB σ) (k + 1).toNat = sm (wB σ) k.toNat + σ 12 k := sm_s (wB σ) k1
      have last : k + 1 = σ 0 27 → sm (wB σ) (k + 1).toNat = σ 0 29 := fun q => by rw [q]; exact ws
      refine ok_iload_n 19 rfl rfl rfl (ok_aload_n 20 rfl rfl rfl (ok_getR 21 rfl rfl fl_X12_48 rfl rfl (ok_iload_n 22 rfl rfl rfl (ok_iald 23 rfl rfl rfl (by first | omega | (simp [up_if]; omega) | (simp [up_if] at *; omega)) (ok_icmp_lt 24 54 rfl rfl rfl (fun h36 => ?_) (fun h36 => ?_))))))
      · refine ok_iload_n 34 rfl rfl rfl (ok_iret 35 rfl rfl rfl ?_)
        exact ⟨_, rfl, rfl, Or.inr ⟨⟨k1, k2⟩, by omega, by omega⟩⟩
      · refine ok_iload_n 25 rfl rfl rfl (ok_aload_n 26 rfl rfl rfl (ok_getR 27 rfl rfl fl_X12_48 rfl rfl (ok_iload_n 28 rfl rfl rfl (ok_iald 29 rfl rfl rfl (by first | omega | (simp [up_if]; omega) | (simp [up_if] at *; omega)) (ok_isub 30 rfl rfl (by first | omega | (simp [up_if]; omega) | (simp [up_if] at *; omega)) (ok_ist3 31 rfl rfl rfl (ok_inc2 32 rfl rfl rfl (by first | omega | (simp [up_if]; omega) | (simp [up_if] at *; omega)) (ok_goto 33 29 rfl rfl rfl ?_))))))))
        exact ih (k + 1) _ ⟨by omega, by rcases (show k + 1 = σ 0 27 ∨ k + 1 < σ 0 27 by omega) with q | q; have := last q; omega; exact q, by omega, by omega⟩ (by omega)
    · refine ok_iconst 13 rfl rfl (by decide) (ok_iret 14 rfl rfl rfl ?_)
      exact ⟨_, rfl, rfl, Or.inl ⟨rfl, by omega⟩⟩
theorem t_Mo_together {σ : eS} {r j : Int} (h : iK σ) (hr : 0 ≤ r ∧ r < σ 0 28) : MtI shB M_Mo_together [vr 0, vi r, vi j] σ (fun σ' z => σ' = σ ∧ z = twS (σ 0 27) (wB σ) (kB σ) r j r j) := by
  refine Mt.of okM_Mo_together (Nat.le_of_ble_eq_true rfl) (fun hk hg => ?_)
  obtain ⟨h1, h2, h3, h4, h5, h6, -⟩ := id h
  refine ok_iconst 0 rfl rfl (by decide) (ok_ist3 1 rfl rfl rfl (ok_iconst 2 rfl rfl (by decide) (ok_ist4 3 rfl rfl rfl ?_)))
  refine lpO2 (fun v p : Int => [some (vr 0), some (vi r), some (vi j), some (vi v), some (vi p)]) (fun _ _ => σ) (fun v p => 0 ≤ p ∧ p ≤ σ 0 27 ∧ v = twS p (wB σ) (kB σ) r j r j) (fun _ p => (64 - p).toNat) ?_ 0 0 ⟨by omega, by omega, rfl⟩
  rintro v p ⟨k1, k2, k3⟩ ih
  have w3 : 0 ≤ sm (wB σ) p.toNat ∧ sm (wB σ) p.toNat ≤ σ 0 29 := wt_sum h k1 (by omega)
  have tb := twS_bd (N := p) (wt := wB σ) (col := kB σ) (i := r) (j := j) (k := r) (l := j) (fun q x y => wB_nn h q x (by omega))
  refine ok_iload 4 rfl rfl rfl (ok_aload_n 5 rfl rfl rfl (ok_getI 6 rfl rfl fl_X12_273 rfl rfl (Or.inl rfl) (ok_icmp_ge 7 50 rfl rfl rfl (fun h11 => ?_) (fun h11 => ?_))))
  · refine ok_iload_n 29 rfl rfl rfl (ok_iret 30 rfl rfl rfl ?_)
    exact ⟨_, rfl, rfl, by rw [k3, show p = σ 0 27 by omega]⟩
  · obtain ⟨w1, w2⟩ := wt_le h k1 (by omega)
    have e : sm (wB σ) (p + 1).toNat = sm (wB σ) p.toNat + σ 12 p := sm_s (wB σ) k1
    have w5 : sm (wB σ) (p + 1).toNat ≤ σ 0 29 := (wt_sum h (k := p + 1) (by omega) (by omega)).2
    have ts := twS_s (N := p) (wt := wB σ) (col := kB σ) (i := r) (j := j) (k := r) (l := j) k1
    have wp : wB σ p = σ 12 p := rfl
    have kp : kB σ p r = σ 13 (8 * p + r) := rfl
    refine ok_iload_n 8 rfl rfl rfl (ok_aload_n 9 rfl rfl rfl (ok_getR 10 rfl rfl fl_X12_51 rfl rfl (ok_bipush 11 rfl rfl (by decide) (by decide) (ok_iload 12 rfl rfl rfl (ok_imul 13 rfl rfl (by first | omega | (simp [up_if]; omega) | (simp [up_if] at *; omega)) (ok_iload_n 14 rfl rfl rfl (ok_iadd 15 rfl rfl (by first | omega | (simp [up_if]; omega) | (simp [up_if] at *; omega)) (ok_iald 16 rfl rfl rfl (by first | omega | (simp [up_if]; omega) | (simp [up_if] at *; omega)) (ok_iload_n 17 rfl rfl rfl (ok_icmp_ne 18 41 rfl rfl rfl (fun h28 => ?_) (fun h28 => ?_)))))))))))
    · refine ok_iconst 24 rfl rfl (by decide) (ok_iadd 25 rfl rfl (by first | omega | (simp [up_if]; omega) | (simp [up_if] at *; omega)) (ok_ist3 26 rfl rfl rfl (ok_inc4 27 rfl rfl rfl (by first | omega | (simp [up_if]; omega) | (simp [up_if] at *; omega)) (ok_goto 28 5 rfl rfl rfl ?_))))
      refine ih _ (p + 1) ⟨by omega, by omega, ?_⟩ (by omega)
      rw [ts]
      first
        | (rw [if_neg (by omega)]; omega)
        | (rw [if_pos (by omega)]; omega)
    · refine ok_aload_n 19 rfl rfl rfl (ok_getR 20 rfl rfl fl_X12_48 rfl rfl (ok_iload 21 rfl rfl rfl (ok_iald 22 rfl rfl rfl (by first | omega | (simp [up_if]; omega) | (simp [up_if] at *; omega)) (ok_goto 23 42 rfl rfl rfl (ok_iadd 25 rfl rfl (by first | omega | (simp [up_if]; omega) | (simp [up_if] at *; omega)) (ok_ist3 26 rfl rfl rfl (ok_inc4 27 rfl rfl rfl (by first | omega | (simp [up_if]; omega) | (simp [up_if] at *; omega)) (ok_goto 28 5 rfl rfl rfl ?_))))))))
      refine ih _ (p + 1) ⟨by omega, by omega, ?_⟩ (by omega)
      rw [ts]
      first
        | (rw [if_neg (by omega)]; omega)
        | (rw [if_pos (by omega)]; omega)
def cuS (f : Int → Int) (n : Int) : Int := sm (fun j => if 0 < f j then 1 else 0) n.toNat
theorem cuS_s {f : Int → Int} {n : Int} (hn : 0 ≤ n) : cuS f (n + 1) = cuS f n + (if 0 < f n then 1 else 0) := by unfold cuS; rw [sm_s _ hn]
def moS (N n : Int) (wt : Int → Int) (col : Int → Int → Int) (r w z : Int) : Prop := (z = -1 ∧ ¬ ((N ≠ 0 ∧ 0 ≤ r ∧ r < n) ∧ 0 ≤ w ∧ w ≤ 2)) ∨ (((0 ≤ r ∧ r < n) ∧ 0 ≤ w ∧ w ≤ 2) ∧ ((w = 2 ∧ z = cuS (fun c => twS N wt col r c r c) n) ∨ (w ≠ 2 ∧ ∃ b, mxS (fun c => twS N wt col r c r c) n b ∧ z = if w = 0 then b else twS N wt col r b r b)))
theorem t_Mo_most {σ : eS} {r w : Int} (h : iK σ) : MtI shB M_Mo_most [vr 0, vi r, vi w] σ (fun σ' z => σ' = σ ∧ moS (σ 0 27) (σ 0 28) (wB σ) (kB σ) r w z) := by
  refine Mt.of okM_Mo_most (Nat.le_of_ble_eq_true rfl) (fun hk hg => ?_)
  obtain ⟨h1, h2, h3, h4, h5, h6, -⟩ := id h
  refine ok_aload_n 0 rfl rfl rfl (ok_getI 1 rfl rfl fl_X12_273 rfl rfl (Or.inl rfl) (ok_if_eq 2 27 rfl rfl rfl (fun h4 => ?_) (fun h4 => ?_)))
  · refine ok_iconst 13 rfl rfl (by decide) (ok_iret 14 rfl rfl rfl ?_)
    exact ⟨_, rfl, rfl, Or.inl ⟨rfl, by omega⟩⟩
  · refine ok_aload_n 3 rfl rfl rfl (ok_iload_n 4 rfl rfl rfl (ok_callVI (M' := M_Mo_isKeptRow) (as := [_]) 5 rfl rfl ml_X12_303 (s_Mo_isKeptRow h) rfl rfl (Nat.le_of_ble_eq_true rfl) ⟨Nat.le_of_ble_eq_true rfl, Nat.le_of_ble_eq_true rfl⟩ rfl (Nat.le_of_ble_eq_true rfl) (fun σ' z1 a1 => ?_)))
    obtain ⟨hs_, a1⟩ := a1
    rw [hs_]; clear hs_ σ'
    refine ok_if_eq 6 27 rfl rfl rfl (fun h12 => ?_) (fun h12 => ?_)
    · refine ok_iconst 13 rfl rfl (by decide) (ok_iret 14 rfl rfl rfl ?_)
      exact ⟨_, rfl, rfl, Or.inl ⟨rfl, by omega⟩⟩
    · refine ok_iload_n 7 rfl rfl rfl (ok_i2l 8 rfl rfl (ok_lconst (w := 0) 9 rfl rfl rfl (by decide) (ok_ldc2 10 (2) rfl rfl kc_X12_306 (by decide) (ok_callSI (M' := M_Mo_isIn) (as := [_, _, _]) 11 rfl rfl ml_X12_99 (s_Mo_isIn_r) ⟨Nat.le_of_ble_eq_true rfl, Nat.le_of_ble_eq_true rfl⟩ rfl (Nat.le_of_ble_eq_true rfl) (fun σ' z2 a2 => ?_)))))
      obtain ⟨hs_, a2⟩ := a2
      rw [hs_]; clear hs_ σ'
      refine ok_if_ne 12 29 rfl rfl rfl (fun h24 => ?_) (fun h24 => ?_)
      · refine ok_iconst 15 rfl rfl (by decide) (ok_ist3 16 rfl rfl rfl (ok_iconst 17 rfl rfl (by decide) (ok_ist4 18 rfl rfl rfl (ok_iconst 19 rfl rfl (by decide) (ok_ist5 20 rfl rfl rfl ?_)))))
        have hr := yes1 a1 h12
        have hw := yes1 a2 h24
        obtain ⟨F, eF⟩ : ∃ F : Int → Int, F = fun c => twS (σ 0 27) (wB σ) (kB σ) r c r c := ⟨_, rfl⟩
        have eF' : ∀ c, twS (σ 0 27) (wB σ) (kB σ) r c r c = F c := fun c => by rw [eF]
        rw [show moS (σ 0 27) (σ 0 28) (wB σ) (kB σ) r w = moS (σ 0 27) (σ 0 28) (wB σ) (kB σ) r w from rfl]
        refine lpO3 (fun b c j : Int => [some (vr 0), some (vi r), some (vi w), some (vi b), some (vi c), some (vi j)]) (fun _ _ _ => σ) (fun b c j => 0 ≤ j ∧ j ≤ σ 0 28 ∧ (0 ≤ c ∧ c ≤ j) ∧ c = cuS F j ∧ (j = 0 → b = 0) ∧ (0 < j → mxS F j b)) (fun _ _ j => (8 - j).toNat) ?_ 0 0 0 ⟨by omega, by omega, ⟨by omega, by omega⟩, rfl, fun _ => rfl, fun q => by omega⟩
        rintro b c j ⟨j1, j2, j3, j4, j5, j6⟩ ih
        have nx : ∀ b', (F b < F j → b' = j) → (F j ≤ F b → b' = b) → mxS F (j + 1) b' := fun b' p q => by
          by_cases y : j = 0
          · have y1 := j5 y
            have y2 : b' = 0 := by
              rcases (by omega : F b < F j ∨ F j ≤ F b) with u | u
              · rw [p u, y]
              · rw [q u, y1]
            rw [y2, y]
            exact ⟨⟨by omega, by omega⟩, fun i u v => by rw [show i = 0 by omega]; exact Int.le_refl _, fun i u v => by omega⟩
          · have ms := mxS_s (j6 (by omega)) j1
            rcases (by omega : F b < F j ∨ F j ≤ F b) with u | u
            · rw [p u]; exact ms.1 u
            · rw [q u]; exact ms.2 u
        have cs := cuS_s (f := F) j1
        refine ok_iload 21 rfl rfl rfl (ok_aload_n 22 rfl rfl rfl (ok_getI 23 rfl rfl fl_X12_276 rfl rfl (Or.inl rfl) (ok_icmp_ge 24 94 rfl rfl rfl (fun h43 => ?_) (fun h43 => ?_))))
        · refine ok_iload_n 50 rfl rfl rfl (ok_if_ne 51 102 rfl rfl rfl (fun h95 => ?_) (fun h95 => ?_))
          · refine ok_iload_n 54 rfl rfl rfl (ok_iconst 55 rfl rfl (by decide) (ok_icmp_ne 56 116 rfl rfl rfl (fun h104 => ?_) (fun h104 => ?_)))
            · refine ok_iload 62 rfl rfl rfl (ok_iret 63 rfl rfl rfl ?_)
              have ej : j = σ 0 28 := by omega
              refine ⟨_, rfl, rfl, Or.inr ⟨⟨hr, hw⟩, ?_⟩⟩
              rw [← eF, ← ej]
              first
                | exact Or.inr ⟨by omega, b, j6 (by omega), by rw [if_pos (by omega)]⟩
                | exact Or.inr ⟨by omega, b, j6 (by omega), by rw [if_neg (by omega)]⟩
                | exact Or.inl ⟨by omega, j4⟩
            · refine ok_aload_n 57 rfl rfl rfl (ok_iload_n 58 rfl rfl rfl (ok_iload_n 59 rfl rfl rfl (ok_callVI (M' := M_Mo_together) (as := [_, _]) 60 rfl rfl ml_X12_308 (t_Mo_together h hr) rfl rfl (Nat.le_of_ble_eq_true rfl) ⟨Nat.le_of_ble_eq_true rfl, Nat.le_of_ble_eq_true rfl⟩ rfl (Nat.le_of_ble_eq_true rfl) (fun σ' z hz => ?_))))
              rw [hz.1, hz.2]; clear hz z σ'
              refine ok_goto 61 118 rfl rfl rfl (ok_iret 63 rfl rfl rfl ?_)
              have ej : j = σ 0 28 := by omega
              refine ⟨_, rfl, rfl, Or.inr ⟨⟨hr, hw⟩, ?_⟩⟩
              rw [← eF, ← ej]
              first
                | exact Or.inr ⟨by omega, b, j6 (by omega), by rw [if_pos (by omega)]⟩
                | exact Or.inr ⟨by omega, b, j6 (by omega), by rw [if_neg (by omega)]⟩
                | exact Or.inl ⟨by omega, j4⟩
          · refine ok_iload_n 52 rfl rfl rfl (ok_goto 53 118 rfl rfl rfl (ok_iret 63 rfl rfl rfl ?_))
            have ej : j = σ 0 28 := by omega
            refine ⟨_, rfl, rfl, Or.inr ⟨⟨hr, hw⟩, ?_⟩⟩
            rw [← eF, ← ej]
            first
              | exact Or.inr ⟨by omega, b, j6 (by omega), by rw [if_pos (by omega)]⟩
              | exact Or.inr ⟨by omega, b, j6 (by omega), by rw [if_neg (by omega)]⟩
              | exact Or.inl ⟨by omega, j4⟩
        · refine ok_aload_n 25 rfl rfl rfl (ok_iload_n 26 rfl rfl rfl (ok_iload 27 rfl rfl rfl (ok_callVI (M' := M_Mo_together) (as := [_, _]) 28 rfl rfl ml_X12_308 (t_Mo_together h hr) rfl rfl (Nat.le_of_ble_eq_true rfl) ⟨Nat.le_of_ble_eq_true rfl, Nat.le_of_ble_eq_true rfl⟩ rfl (Nat.le_of_ble_eq_true rfl) (fun σ' z hz => ?_))))
          rw [hz.1, hz.2, eF']; clear hz z σ'
          refine ok_aload_n 29 rfl rfl rfl (ok_iload_n 30 rfl rfl rfl (ok_iload_n 31 rfl rfl rfl (ok_callVI (M' := M_Mo_together) (as := [_, _]) 32 rfl rfl ml_X12_308 (t_Mo_together h hr) rfl rfl (Nat.le_of_ble_eq_true rfl) ⟨Nat.le_of_ble_eq_true rfl, Nat.le_of_ble_eq_true rfl⟩ rfl (Nat.le_of_ble_eq_true rfl) (fun σ' z hz => ?_))))
          rw [hz.1, hz.2, eF']; clear hz z σ'
          refine ok_icmp_le 33 65 rfl rfl rfl (fun h59 => ?_) (fun h59 => ?_)
          · refine ok_iload 36 rfl rfl rfl (ok_aload_n 37 rfl rfl rfl (ok_iload_n 38 rfl rfl rfl (ok_iload 39 rfl rfl rfl (ok_callVI (M' := M_Mo_together) (as := [_, _]) 40 rfl rfl ml_X12_308 (t_Mo_together h hr) rfl rfl (Nat.le_of_ble_eq_true rfl) ⟨Nat.le_of_ble_eq_true rfl, Nat.le_of_ble_eq_true rfl⟩ rfl (Nat.le_of_ble_eq_true rfl) (fun σ' z hz => ?_)))))
            rw [hz.1, hz.2, eF']; clear hz z σ'
            refine ok_if_le 41 81 rfl rfl rfl (fun h74 => ?_) (fun h74 => ?_)
            · refine ok_iconst 44 rfl rfl (by decide) (ok_callSI (M' := M_Mo_one) (as := [_]) 45 rfl rfl ml_X12_192 (s_Mo_one) ⟨Nat.le_of_ble_eq_true rfl, Nat.le_of_ble_eq_true rfl⟩ rfl (Nat.le_of_ble_eq_true rfl) (fun σ' z hz => ?_))
              have q0 := hz.2
              rw [hz.1]
              have q1 : z = if 0 < F j then 1 else 0 := by
                rw [q0]
                first
                  | (rw [if_neg (by decide), if_pos (by omega)])
                  | (rw [if_pos (by decide), if_neg (by omega)])
              clear q0 hz σ'
              have q2 : 0 ≤ z ∧ z ≤ 1 := by rw [q1]; split <;> omega
              refine ok_iadd 46 rfl rfl (by first | omega | (simp [up_if]; omega) | (simp [up_if] at *; omega)) (ok_ist4 47 rfl rfl rfl (ok_inc5 48 rfl rfl rfl (by first | omega | (simp [up_if]; omega) | (simp [up_if] at *; omega)) (ok_goto 49 37 rfl rfl rfl ?_)))
              refine ih _ _ (j + 1) ⟨by omega, by omega, ⟨by omega, by omega⟩, by rw [cs, ← q1, j4], fun q => by omega, fun _ => nx _ (fun q => by omega) (fun q => by omega)⟩ (by omega)
            · refine ok_iconst 42 rfl rfl (by decide) (ok_goto 43 82 rfl rfl rfl (ok_callSI (M' := M_Mo_one) (as := [_]) 45 rfl rfl ml_X12_192 (s_Mo_one) ⟨Nat.le_of_ble_eq_true rfl, Nat.le_of_ble_eq_true rfl⟩ rfl (Nat.le_of_ble_eq_true rfl) (fun σ' z hz => ?_)))
              have q0 := hz.2
              rw [hz.1]
              have q1 : z = if 0 < F j then 1 else 0 := by
                rw [q0]
                first
                  | (rw [if_neg (by decide), if_pos (by omega)])
                  | (rw [if_pos (by decide), if_neg (by omega)])
              clear q0 hz σ'
              have q2 : 0 ≤ z ∧ z ≤ 1 := by rw [q1]; split <;> omega
              refine ok_iadd 46 rfl rfl (by first | omega | (simp [up_if]; omega) | (simp [up_if] at *; omega)) (ok_ist4 47 rfl rfl rfl (ok_inc5 48 rfl rfl rfl (by first | omega | (simp [up_if]; omega) | (simp [up_if] at *; omega)) (ok_goto 49 37 rfl rfl rfl ?_)))
              refine ih _ _ (j + 1) ⟨by omega, by omega, ⟨by omega, by omega⟩, by rw [cs, ← q1, j4], fun q => by omega, fun _ => nx _ (fun q => by omega) (fun q => by omega)⟩ (by omega)
          · refine ok_iload 34 rfl rfl rfl (ok_ist3 35 rfl rfl rfl (ok_iload 36 rfl rfl rfl (ok_aload_n 37 rfl rfl rfl (ok_iload_n 38 rfl rfl rfl (ok_iload 39 rfl rfl rfl (ok_callVI (M' := M_Mo_together) (as := [_, _]) 40 rfl rfl ml_X12_308 (t_Mo_together h hr) rfl rfl (Nat.le_of_ble_eq_true rfl) ⟨Nat.le_of_ble_eq_true rfl, Nat.le_of_ble_eq_true rfl⟩ rfl (Nat.le_of_ble_eq_true rfl) (fun σ' z hz => ?_)))))))
            rw [hz.1, hz.2, eF']; clear hz z σ'
            refine ok_if_le 41 81 rfl rfl rfl (fun h74 => ?_) (fun h74 => ?_)
            · refine ok_iconst 44 rfl rfl (by decide) (ok_callSI (M' := M_Mo_one) (as := [_]) 45 rfl rfl ml_X12_192 (s_Mo_one) ⟨Nat.le_of_ble_eq_true rfl, Nat.le_of_ble_eq_true rfl⟩ rfl (Nat.le_of_ble_eq_true rfl) (fun σ' z hz => ?_))
              have q0 := hz.2
              rw [hz.1]
              have q1 : z = if 0 < F j then 1 else 0 := by
                rw [q0]
                first
                  | (rw [if_neg (by decide), if_pos (by omega)])
                  | (rw [if_pos (by decide), if_neg (by omega)])
              clear q0 hz σ'
              have q2 : 0 ≤ z ∧ z ≤ 1 := by rw [q1]; split <;> omega
              refine ok_iadd 46 rfl rfl (by first | omega | (simp [up_if]; omega) | (simp [up_if] at *; omega)) (ok_ist4 47 rfl rfl rfl (ok_inc5 48 rfl rfl rfl (by first | omega | (simp [up_if]; omega) | (simp [up_if] at *; omega)) (ok_goto 49 37 rfl rfl rfl ?_)))
              refine ih _ _ (j + 1) ⟨by omega, by omega, ⟨by omega, by omega⟩, by rw [cs, ← q1, j4], fun q => by omega, fun _ => nx _ (fun q => by omega) (fun q => by omega)⟩ (by omega)
            · refine ok_iconst 42 rfl rfl (by decide) (ok_goto 43 82 rfl rfl rfl (ok_callSI (M' := M_Mo_one) (as := [_]) 45 rfl rfl ml_X12_192 (s_Mo_one) ⟨Nat.le_of_ble_eq_true rfl, Nat.le_of_ble_eq_true rfl⟩ rfl (Nat.le_of_ble_eq_true rfl) (fun σ' z hz => ?_)))
              have q0 := hz.2
              rw [hz.1]
              have q1 : z = if 0 < F j then 1 else 0 := by
                rw [q0]
                first
                  | (rw [if_neg (by decide), if_pos (by omega)])
                  | (rw [if_pos (by decide), if_neg (by omega)])
              clear q0 hz σ'
              have q2 : 0 ≤ z ∧ z ≤ 1 := by rw [q1]; split <;> omega
              refine ok_iadd 46 rfl rfl (by first | omega | (simp [up_if]; omega) | (simp [up_if] at *; omega)) (ok_ist4 47 rfl rfl rfl (ok_inc5 48 rfl rfl rfl (by first | omega | (simp [up_if]; omega) | (simp [up_if] at *; omega)) (ok_goto 49 37 rfl rfl rfl ?_)))
              refine ih _ _ (j + 1) ⟨by omega, by omega, ⟨by omega, by omega⟩, by rw [cs, ← q1, j4], fun q => by omega, fun _ => nx _ (fun q => by omega) (fun q => by omega)⟩ (by omega)
      · refine ok_iconst 13 rfl rfl (by decide) (ok_iret 14 rfl rfl rfl ?_)
        exact ⟨_, rfl, rfl, Or.inl ⟨rfl, by omega⟩⟩
theorem t_Mo_joint {σ : eS} {i j k l w : Int} (h : iK σ) : MtI shB M_Mo_joint [vr 0, vi i, vi j, vi k, vi l, vi w] σ (fun σ' z => σ' = σ ∧ (σ 0 27 ≠ 0 → jtS (σ 0 27) (σ 0 28) (σ 0 29) (wB σ) (kB σ) i j k l w z) ∧ (σ 0 27 = 0 → z = -1)) := by
  refine Mt.of okM_Mo_joint (Nat.le_of_ble_eq_true rfl) (fun hk hg => ?_)
  obtain ⟨h1, h2, h3, h4, h5, h6, -⟩ := id h
  have no : ∀ {z : Int}, ¬ okJ4 (σ 0 28) i j k l w → jtS (σ 0 27) (σ 0 28) (σ 0 29) (wB σ) (kB σ) i j k l w (-1) := fun q => by unfold jtS; rw [if_neg q]
  refine ok_aload_n 0 rfl rfl rfl (ok_getI 1 rfl rfl fl_X12_273 rfl rfl (Or.inl rfl) (ok_if_eq 2 51 rfl rfl rfl (fun h4 => ?_) (fun h4 => ?_)))
  · refine ok_iconst 25 rfl rfl (by decide) (ok_iret 26 rfl rfl rfl ?_)
    exact ⟨_, rfl, rfl, fun q => absurd (by omega) q, fun _ => rfl⟩
  · refine ok_aload_n 3 rfl rfl rfl (ok_iload_n 4 rfl rfl rfl (ok_callVI (M' := M_Mo_isKeptRow) (as := [_]) 5 rfl rfl ml_X12_303 (s_Mo_isKeptRow h) rfl rfl (Nat.le_of_ble_eq_true rfl) ⟨Nat.le_of_ble_eq_true rfl, Nat.le_of_ble_eq_true rfl⟩ rfl (Nat.le_of_ble_eq_true rfl) (fun σ' z1 a1 => ?_)))
    obtain ⟨hs_, a1⟩ := a1
    rw [hs_]; clear hs_ σ'
    refine ok_if_eq 6 51 rfl rfl rfl (fun h12 => ?_) (fun h12 => ?_)
    · refine ok_iconst 25 rfl rfl (by decide) (ok_iret 26 rfl rfl rfl ?_)
      exact ⟨_, rfl, rfl, fun q => no (z := 0) (by unfold okJ4; omega), fun _ => rfl⟩
    · refine ok_aload_n 7 rfl rfl rfl (ok_iload_n 8 rfl rfl rfl (ok_callVI (M' := M_Mo_isKeptRow) (as := [_]) 9 rfl rfl ml_X12_303 (s_Mo_isKeptRow h) rfl rfl (Nat.le_of_ble_eq_true rfl) ⟨Nat.le_of_ble_eq_true rfl, Nat.le_of_ble_eq_true rfl⟩ rfl (Nat.le_of_ble_eq_true rfl) (fun σ' z2 a2 => ?_)))
      obtain ⟨hs_, a2⟩ := a2
      rw [hs_]; clear hs_ σ'
      refine ok_if_eq 10 51 rfl rfl rfl (fun h20 => ?_) (fun h20 => ?_)
      · refine ok_iconst 25 rfl rfl (by decide) (ok_iret 26 rfl rfl rfl ?_)
        exact ⟨_, rfl, rfl, fun q => no (z := 0) (by unfold okJ4; omega), fun _ => rfl⟩
      · refine ok_aload_n 11 rfl rfl rfl (ok_iload_n 12 rfl rfl rfl (ok_callVI (M' := M_Mo_isKeptRow) (as := [_]) 13 rfl rfl ml_X12_303 (s_Mo_isKeptRow h) rfl rfl (Nat.le_of_ble_eq_true rfl) ⟨Nat.le_of_ble_eq_true rfl, Nat.le_of_ble_eq_true rfl⟩ rfl (Nat.le_of_ble_eq_true rfl) (fun σ' z3 a3 => ?_)))
        obtain ⟨hs_, a3⟩ := a3
        rw [hs_]; clear hs_ σ'
        refine ok_if_eq 14 51 rfl rfl rfl (fun h28 => ?_) (fun h28 => ?_)
        · refine ok_iconst 25 rfl rfl (by decide) (ok_iret 26 rfl rfl rfl ?_)
          exact ⟨_, rfl, rfl, fun q => no (z := 0) (by unfold okJ4; omega), fun _ => rfl⟩
        · refine ok_aload_n 15 rfl rfl rfl (ok_iload 16 rfl rfl rfl (ok_callVI (M' := M_Mo_isKeptRow) (as := [_]) 17 rfl rfl ml_X12_303 (s_Mo_isKeptRow h) rfl rfl (Nat.le_of_ble_eq_true rfl) ⟨Nat.le_of_ble_eq_true rfl, Nat.le_of_ble_eq_true rfl⟩ rfl (Nat.le_of_ble_eq_true rfl) (fun σ' z4 a4 => ?_)))
          obtain ⟨hs_, a4⟩ := a4
          rw [hs_]; clear hs_ σ'
          refine ok_if_eq 18 51 rfl rfl rfl (fun h37 => ?_) (fun h37 => ?_)
          · refine ok_iconst 25 rfl rfl (by decide) (ok_iret 26 rfl rfl rfl ?_)
            exact ⟨_, rfl, rfl, fun q => no (z := 0) (by unfold okJ4; omega), fun _ => rfl⟩
          · refine ok_iload 19 rfl rfl rfl (ok_i2l 20 rfl rfl (ok_lconst (w := 0) 21 rfl rfl rfl (by decide) (ok_lconst (w := 1) 22 rfl rfl rfl (by decide) (ok_callSI (M' := M_Mo_isIn) (as := [_, _, _]) 23 rfl rfl ml_X12_99 (s_Mo_isIn_r) ⟨Nat.le_of_ble_eq_true rfl, Nat.le_of_ble_eq_true rfl⟩ rfl (Nat.le_of_ble_eq_true rfl) (fun σ' z5 a5 => ?_)))))
            obtain ⟨hs_, a5⟩ := a5
            rw [hs_]; clear hs_ σ'
            refine ok_if_ne 24 53 rfl rfl rfl (fun h48 => ?_) (fun h48 => ?_)
            · refine ok_iconst 27 rfl rfl (by decide) (ok_ist6 28 rfl rfl rfl (ok_iconst 29 rfl rfl (by decide) (ok_ist7 30 rfl rfl rfl ?_)))
              have r1 := yes1 a1 h12
              have r2 := yes1 a2 h20
              have r3 := yes1 a3 h28
              have r4 := yes1 a4 h37
              have r5 := yes1 a5 h48
              refine lpO2 (fun v p : Int => [some (vr 0), some (vi i), some (vi j), some (vi k), some (vi l), some (vi w), some (vi v), some (vi p)]) (fun _ _ => σ) (fun v p => 0 ≤ p ∧ p ≤ σ 0 27 ∧ v = twS p (wB σ) (kB σ) i j k l) (fun _ p => (64 - p).toNat) ?_ 0 0 ⟨by omega, by omega, rfl⟩
              rintro v p ⟨k1, k2, k3⟩ ih
              have w3 : 0 ≤ sm (wB σ) p.toNat ∧ sm (wB σ) p.toNat ≤ σ 0 29 := wt_sum h k1 (by omega)
              obtain ⟨w6, w7⟩ := wt_le h (k := 0) (by omega) (by omega)
              have tb := twS_bd (N := p) (wt := wB σ) (col := kB σ) (i := i) (j := j) (k := k) (l := l) (fun q x y => wB_nn h q x (by omega))
              refine ok_iload 31 rfl rfl rfl (ok_aload_n 32 rfl rfl rfl (ok_getI 33 rfl rfl fl_X12_273 rfl rfl (Or.inl rfl) (ok_icmp_ge 34 123 rfl rfl rfl (fun h65 => ?_) (fun h65 => ?_))))
              · obtain ⟨c1, c2⟩ := gcd_pos (a := σ 0 29) (b := v) (by omega)
                have ep : p = σ 0 27 := by omega
                rw [← k3] at tb
                rw [ep] at k3
                refine ok_aload_n 66 rfl rfl rfl (ok_getI 67 rfl rfl fl_X12_279 rfl rfl (Or.inl rfl) (ok_i2l 68 rfl rfl (ok_iload 69 rfl rfl rfl (ok_i2l 70 rfl rfl (ok_callSL (M' := M_Mo_common) (as := [_, _]) 71 rfl rfl ml_X12_89 (s_Mo_common (by omega) (by omega)) ⟨Nat.le_of_ble_eq_true rfl, Nat.le_of_ble_eq_true rfl⟩ rfl (Nat.le_of_ble_eq_true rfl) (fun σ' z hz => ?_))))))
                rw [hz.1, hz.2]
                clear hz z σ'
                refine ok_l2i 72 rfl rfl (by first | omega | (simp [up_if]; omega) | (simp [up_if] at *; omega)) (ok_ist7 73 rfl rfl rfl (ok_iload 74 rfl rfl rfl (ok_if_ne 75 150 rfl rfl rfl (fun h139 => ?_) (fun h139 => ?_))))
                · refine ok_aload_n 80 rfl rfl rfl (ok_getI 81 rfl rfl fl_X12_279 rfl rfl (Or.inl rfl) (ok_iload 82 rfl rfl rfl (ok_idiv 83 rfl rfl (by omega) (by omega) (ok_iret 84 rfl rfl rfl ?_))))
                  refine ⟨_, rfl, rfl, fun q => ?_, fun q => by omega⟩
                  unfold jtS
                  rw [← k3, if_pos (by unfold okJ4; omega)]
                  first | rw [if_pos (by omega)] | rw [if_neg (by omega)]
                · refine ok_iload 76 rfl rfl rfl (ok_iload 77 rfl rfl rfl (ok_idiv 78 rfl rfl (by omega) (by omega) (ok_goto 79 157 rfl rfl rfl (ok_iret 84 rfl rfl rfl ?_))))
                  refine ⟨_, rfl, rfl, fun q => ?_, fun q => by omega⟩
                  unfold jtS
                  rw [← k3, if_pos (by unfold okJ4; omega)]
                  first | rw [if_pos (by omega)] | rw [if_neg (by omega)]
              · obtain ⟨w1, w2⟩ := wt_le h k1 (by omega)
                have e : sm (wB σ) (p + 1).toNat = sm (wB σ) p.toNat + σ 12 p := sm_s (wB σ) k1
                have w5 : sm (wB σ) (p + 1).toNat ≤ σ 0 29 := (wt_sum h (k := p + 1) (by omega) (by omega)).2
                have ts := twS_s (N := p) (wt := wB σ) (col := kB σ) (i := i) (j := j) (k := k) (l := l) k1
                have wp : wB σ p = σ 12 p := rfl
                have kp : kB σ p i = σ 13 (8 * p + i) := rfl
                have kp2 : kB σ p k = σ 13 (8 * p + k) := rfl
                refine ok_iload 35 rfl rfl rfl (ok_aload_n 36 rfl rfl rfl (ok_getR 37 rfl rfl fl_X12_51 rfl rfl (ok_bipush 38 rfl rfl (by decide) (by decide) (ok_iload 39 rfl rfl rfl (ok_imul 40 rfl rfl (by first | omega | (simp [up_if]; omega) | (simp [up_if] at *; omega)) (ok_iload_n 41 rfl rfl rfl (ok_iadd 42 rfl rfl (by first | omega | (simp [up_if]; omega) | (simp [up_if] at *; omega)) (ok_iald 43 rfl rfl rfl (by first | omega | (simp [up_if]; omega) | (simp [up_if] at *; omega)) (ok_iload_n 44 rfl rfl rfl (ok_icmp_ne 45 113 rfl rfl rfl (fun h83 => ?_) (fun h83 => ?_)))))))))))
                · refine ok_iconst 61 rfl rfl (by decide) (ok_iadd 62 rfl rfl (by first | omega | (simp [up_if]; omega) | (simp [up_if] at *; omega)) (ok_ist6 63 rfl rfl rfl (ok_inc7 64 rfl rfl rfl (by first | omega | (simp [up_if]; omega) | (simp [up_if] at *; omega)) (ok_goto 65 59 rfl rfl rfl ?_))))
                  refine ih _ (p + 1) ⟨by omega, by omega, ?_⟩ (by omega)
                  rw [ts]
                  first
                    | (rw [if_neg (by omega)]; omega)
                    | (rw [if_pos (by omega)]; omega)
                · refine ok_aload_n 46 rfl rfl rfl (ok_getR 47 rfl rfl fl_X12_51 rfl rfl (ok_bipush 48 rfl rfl (by decide) (by decide) (ok_iload 49 rfl rfl rfl (ok_imul 50 rfl rfl (by first | omega | (simp [up_if]; omega) | (simp [up_if] at *; omega)) (ok_iload_n 51 rfl rfl rfl (ok_iadd 52 rfl rfl (by first | omega | (simp [up_if]; omega) | (simp [up_if] at *; omega)) (ok_iald 53 rfl rfl rfl (by first | omega | (simp [up_if]; omega) | (simp [up_if] at *; omega)) (ok_iload 54 rfl rfl rfl (ok_icmp_ne 55 113 rfl rfl rfl (fun h100 => ?_) (fun h100 => ?_))))))))))
                  · refine ok_iconst 61 rfl rfl (by decide) (ok_iadd 62 rfl rfl (by first | omega | (simp [up_if]; omega) | (simp [up_if] at *; omega)) (ok_ist6 63 rfl rfl rfl (ok_inc7 64 rfl rfl rfl (by first | omega | (simp [up_if]; omega) | (simp [up_if] at *; omega)) (ok_goto 65 59 rfl rfl rfl ?_))))
                    refine ih _ (p + 1) ⟨by omega, by omega, ?_⟩ (by omega)
                    rw [ts]
                    first
                      | (rw [if_neg (by omega)]; omega)
                      | (rw [if_pos (by omega)]; omega)
                  · refine ok_aload_n 56 rfl rfl rfl (ok_getR 57 rfl rfl fl_X12_48 rfl rfl (ok_iload 58 rfl rfl rfl (ok_iald 59 rfl rfl rfl (by first | omega | (simp [up_if]; omega) | (simp [up_if] at *; omega)) (ok_goto 60 114 rfl rfl rfl (ok_iadd 62 rfl rfl (by first | omega | (simp [up_if]; omega) | (simp [up_if] at *; omega)) (ok_ist6 63 rfl rfl rfl (ok_inc7 64 rfl rfl rfl (by first | omega | (simp [up_if]; omega) | (simp [up_if] at *; omega)) (ok_goto 65 59 rfl rfl rfl ?_))))))))
                    refine ih _ (p + 1) ⟨by omega, by omega, ?_⟩ (by omega)
                    rw [ts]
                    first
                      | (rw [if_neg (by omega)]; omega)
                      | (rw [if_pos (by omega)]; omega)
            · refine ok_iconst 25 rfl rfl (by decide) (ok_iret 26 rfl rfl rfl ?_)
              exact ⟨_, rfl, rfl, fun q => no (z := 0) (by unfold okJ4; omega), fun _ => rfl⟩
theorem t_Mo_works {σ : eS} {j t : Int} (h : iK σ) : MtI shB M_Mo_works [vr 0, vi j, vi t] σ (fun σ' z => σ' = σ ∧ wkS (σ 0 27) (σ 0 31) (wB σ) (kB σ) (σ 0 30 = 2 ∧ 0 ≤ j ∧ j < σ 0 31) j t z) := by
  refine Mt.of okM_Mo_works (Nat.le_of_ble_eq_true rfl) (fun hk hg => ?_)
  obtain ⟨k1, k2, k3, k4, k5, k6, -⟩ := id h
  have ws := wB_sum h
  refine ok_aload_n 0 rfl rfl rfl (ok_iload_n 1 rfl rfl rfl (ok_callVI (M' := M_Mo_isJob) (as := [_]) 2 rfl rfl ml_X12_366 (s_Mo_isJob h) rfl rfl (Nat.le_of_ble_eq_true rfl) ⟨Nat.le_of_ble_eq_true rfl, Nat.le_of_ble_eq_true rfl⟩ rfl (Nat.le_of_ble_eq_true rfl) (fun σ' z1 a1 => ?_)))
  obtain ⟨hs_, a1⟩ := a1
  rw [hs_]; clear hs_ σ'
  refine ok_if_eq 3 24 rfl rfl rfl (fun h5 => ?_) (fun h5 => ?_)
  · refine ok_iconst 14 rfl rfl (by decide) (ok_iret 15 rfl rfl rfl ?_)
    exact ⟨_, rfl, rfl, Or.inl ⟨rfl, no1 a1 h5⟩⟩
  · refine ok_iload_n 4 rfl rfl rfl (ok_i2l 5 rfl rfl (ok_lconst (w := 0) 6 rfl rfl rfl (by decide) (ok_aload_n 7 rfl rfl rfl (ok_getI 8 rfl rfl fl_X12_279 rfl rfl (Or.inl rfl) (ok_iconst 9 rfl rfl (by decide) (ok_isub 10 rfl rfl (by first | omega | (simp [up_if]; omega) | (simp [up_if] at *; omega)) (ok_i2l 11 rfl rfl (ok_callSI (M' := M_Mo_isIn) (as := [_, _, _]) 12 rfl rfl ml_X12_99 (s_Mo_isIn_r) ⟨Nat.le_of_ble_eq_true rfl, Nat.le_of_ble_eq_true rfl⟩ rfl (Nat.le_of_ble_eq_true rfl) (fun σ' z2 a2 => ?_)))))))))
    obtain ⟨hs_, a2⟩ := a2
    rw [hs_]; clear hs_ σ'
    refine ok_if_ne 13 26 rfl rfl rfl (fun h21 => ?_) (fun h21 => ?_)
    · have r1 := yes1 a1 h5
      have r2 := yes1 a2 h21
      have r3 := h.two r1.1
      refine ok_aload_n 16 rfl rfl rfl (ok_getR 17 rfl rfl fl_X12_51 rfl rfl (ok_bipush 18 rfl rfl (by decide) (by decide) (ok_aload_n 19 rfl rfl rfl (ok_iload_n 20 rfl rfl rfl (ok_callVI (M' := M_Mo_draw) (as := [_]) 21 rfl rfl ml_X12_369 (t_Mo_draw h) rfl rfl (Nat.le_of_ble_eq_true rfl) ⟨Nat.le_of_ble_eq_true rfl, Nat.le_of_ble_eq_true rfl⟩ rfl (Nat.le_of_ble_eq_true rfl) (fun σ' z3 a3 => ?_))))))
      obtain ⟨hs_, a3⟩ := a3
      rw [hs_]; clear hs_ σ'
      have r4 : 0 ≤ z3 ∧ z3 < σ 0 27 := by
        rcases id a3 with ⟨-, q⟩ | ⟨q, -⟩
        · exact absurd (by omega) q
        · exact q
      refine ok_imul 22 rfl rfl (by first | omega | (simp [up_if]; omega) | (simp [up_if] at *; omega)) (ok_iload_n 23 rfl rfl rfl (ok_iadd 24 rfl rfl (by first | omega | (simp [up_if]; omega) | (simp [up_if] at *; omega)) (ok_iald 25 rfl rfl rfl (by first | omega | (simp [up_if]; omega) | (simp [up_if] at *; omega)) (ok_ist3 26 rfl rfl rfl (ok_iload_n 27 rfl rfl rfl (ok_aload_n 28 rfl rfl rfl (ok_getI 29 rfl rfl fl_X12_363 rfl rfl (Or.inl rfl) (ok_icmp_ge 30 54 rfl rfl rfl (fun h47 => ?_) (fun h47 => ?_)))))))))
      · refine ok_iconst 33 rfl rfl (by decide) (ok_iret 34 rfl rfl rfl ?_)
        refine ⟨_, rfl, rfl, Or.inr ⟨r1, z3, a3, Or.inr ⟨r4.1, ?_⟩⟩⟩
        have kp : kB σ z3 j = σ 13 (8 * z3 + j) := rfl
        rw [kp]
        first | (rw [if_pos (by omega)]) | (rw [if_neg (by omega)])
      · refine ok_iload_n 31 rfl rfl rfl (ok_goto 32 55 rfl rfl rfl (ok_iret 34 rfl rfl rfl ?_))
        refine ⟨_, rfl, rfl, Or.inr ⟨r1, z3, a3, Or.inr ⟨r4.1, ?_⟩⟩⟩
        have kp : kB σ z3 j = σ 13 (8 * z3 + j) := rfl
        rw [kp]
        first | (rw [if_pos (by omega)]) | (rw [if_neg (by omega)])
    · refine ok_iconst 14 rfl rfl (by decide) (ok_iret 15 rfl rfl rfl ?_)
      exact ⟨_, rfl, rfl, Or.inr ⟨yes1 a1 h5, -1, Or.inl ⟨rfl, by omega⟩, Or.inl ⟨rfl, rfl⟩⟩⟩
theorem t_Mo_kept {σ : eS} {w : Int} : MtI shB M_Mo_kept [vr 0, vi w] σ (fun σ' z => σ' = σ ∧ z = if w = 0 then σ 0 30 else if w = 1 then σ 0 27 else if w = 2 then σ 0 29 else if w = 3 then (if σ 0 30 = 2 then σ 0 31 else σ 0 28) else if w = 4 then σ 0 6 else -1) := by
  refine Mt.of okM_Mo_kept (Nat.le_of_ble_eq_true rfl) (fun hk hg => ?_)
  refine ok_iload_n 0 rfl rfl rfl ?_
  rcases (by omega : w = 0 ∨ w = 1 ∨ w = 2 ∨ w = 3 ∨ w = 4 ∨ (w < 0 ∨ 4 < w)) with q_ | q_ | q_ | q_ | q_ | q_
  · subst q_
    refine ok_tin 1 (len := 35) 36 rfl rfl (by decide) (by decide) rfl rfl ?_
    refine ok_aload_n 2 rfl rfl rfl (ok_getI 3 rfl rfl fl_X12_282 rfl rfl (Or.inl rfl) (ok_iret 4 rfl rfl rfl ?_))
    refine ⟨_, rfl, rfl, ?_⟩
    first
      | rfl
      | (show σ 0 31 = if σ 0 30 = 2 then σ 0 31 else σ 0 28; rw [if_pos (by omega)])
      | (show σ 0 28 = if σ 0 30 = 2 then σ 0 31 else σ 0 28; rw [if_neg (by omega)])
      | (rw [if_neg (by omega), if_neg (by omega), if_neg (by omega), if_neg (by omega), if_neg (by omega)])
  · subst q_
    refine ok_tin 1 (len := 35) 41 rfl rfl (by decide) (by decide) rfl rfl ?_
    refine ok_aload_n 5 rfl rfl rfl (ok_getI 6 rfl rfl fl_X12_273 rfl rfl (Or.inl rfl) (ok_iret 7 rfl rfl rfl ?_))
    refine ⟨_, rfl, rfl, ?_⟩
    first
      | rfl
      | (show σ 0 31 = if σ 0 30 = 2 then σ 0 31 else σ 0 28; rw [if_pos (by omega)])
      | (show σ 0 28 = if σ 0 30 = 2 then σ 0 31 else σ 0 28; rw [if_neg (by omega)])
      | (rw [if_neg (by omega), if_neg (by omega), if_neg (by omega), if_neg (by omega), if_neg (by omega)])
  · subst q_
    refine ok_tin 1 (len := 35) 46 rfl rfl (by decide) (by decide) rfl rfl ?_
    refine ok_aload_n 8 rfl rfl rfl (ok_getI 9 rfl rfl fl_X12_279 rfl rfl (Or.inl rfl) (ok_iret 10 rfl rfl rfl ?_))
    refine ⟨_, rfl, rfl, ?_⟩
    first
      | rfl
      | (show σ 0 31 = if σ 0 30 = 2 then σ 0 31 else σ 0 28; rw [if_pos (by omega)])
      | (show σ 0 28 = if σ 0 30 = 2 then σ 0 31 else σ 0 28; rw [if_neg (by omega)])
      | (rw [if_neg (by omega), if_neg (by omega), if_neg (by omega), if_neg (by omega), if_neg (by omega)])
  · subst q_
    refine ok_tin 1 (len := 35) 51 rfl rfl (by decide) (by decide) rfl rfl ?_
    refine ok_aload_n 11 rfl rfl rfl (ok_getI 12 rfl rfl fl_X12_282 rfl rfl (Or.inl rfl) (ok_iconst 13 rfl rfl (by decide) (ok_icmp_ne 14 66 rfl rfl rfl (fun h56 => ?_) (fun h56 => ?_))))
    · refine ok_aload_n 18 rfl rfl rfl (ok_getI 19 rfl rfl fl_X12_276 rfl rfl (Or.inl rfl) (ok_iret 20 rfl rfl rfl ?_))
      refine ⟨_, rfl, rfl, ?_⟩
      first
        | rfl
        | (show σ 0 31 = if σ 0 30 = 2 then σ 0 31 else σ 0 28; rw [if_pos (by omega)])
        | (show σ 0 28 = if σ 0 30 = 2 then σ 0 31 else σ 0 28; rw [if_neg (by omega)])
        | (rw [if_neg (by omega), if_neg (by omega), if_neg (by omega), if_neg (by omega), if_neg (by omega)])
    · refine ok_aload_n 15 rfl rfl rfl (ok_getI 16 rfl rfl fl_X12_363 rfl rfl (Or.inl rfl) (ok_goto 17 70 rfl rfl rfl (ok_iret 20 rfl rfl rfl ?_)))
      refine ⟨_, rfl, rfl, ?_⟩
      first
        | rfl
        | (show σ 0 31 = if σ 0 30 = 2 then σ 0 31 else σ 0 28; rw [if_pos (by omega)])
        | (show σ 0 28 = if σ 0 30 = 2 then σ 0 31 else σ 0 28; rw [if_neg (by omega)])
        | (rw [if_neg (by omega), if_neg (by omega), if_neg (by omega), if_neg (by omega), if_neg (by omega)])
  · subst q_
    refine ok_tin 1 (len := 35) 71 rfl rfl (by decide) (by decide) rfl rfl ?_
    refine ok_aload_n 21 rfl rfl rfl (ok_getI 22 rfl rfl fl_X12_125 rfl rfl (Or.inl rfl) (ok_iret 23 rfl rfl rfl ?_))
    refine ⟨_, rfl, rfl, ?_⟩
    first
      | rfl
      | (show σ 0 31 = if σ 0 30 = 2 then σ 0 31 else σ 0 28; rw [if_pos (by omega)])
      | (show σ 0 28 = if σ 0 30 = 2 then σ 0 31 else σ 0 28; rw [if_neg (by omega)])
      | (rw [if_neg (by omega), if_neg (by omega), if_neg (by omega), if_neg (by omega), if_neg (by omega)])
  · refine ok_tout 1 (len := 35) 76 rfl rfl q_ rfl ?_
    refine ok_iconst 24 rfl rfl (by decide) (ok_iret 25 rfl rfl rfl ?_)
    refine ⟨_, rfl, rfl, ?_⟩
    first
      | rfl
      | (show σ 0 31 = if σ 0 30 = 2 then σ 0 31 else σ 0 28; rw [if_pos (by omega)])
      | (show σ 0 28 = if σ 0 30 = 2 then σ 0 31 else σ 0 28; rw [if_neg (by omega)])
      | (rw [if_neg (by omega), if_neg (by omega), if_neg (by omega), if_neg (by omega), if_neg (by omega)])
end
section
/-! PAIRED: the first of the joined choices, on both sides -/
def okPr (T : Prop) (n l r : Int) : Prop := T ∧ isL l ∧ 0 ≤ r ∧ r < n
def paS (n : Int) (op : Int → Int → Prop) (r z : Int) : Prop := (¬ cpl n op n.toNat 0 ∧ z = -1) ∨ (cpl n op n.toNat 0 ∧ ∃ ch : Int → Int, fstC n (okJ n op) ch ∧ z = ch r)
theorem paS_un {n r z z' : Int} {op op' : Int → Int → Prop} (hn : 0 ≤ n ∧ n ≤ 8) (hr : 0 ≤ r ∧ r < n) (e : ∀ i j, 0 ≤ i → i < n → 0 ≤ j → j < n → (op i j ↔ op' i j)) (h : paS n op r z) (h' : paS n op' r z') : z = z' := by
  have c := cpl_cg e n.toNat 0 (by omega)
  rcases h with ⟨a1, a2⟩ | ⟨a1, ch, a2, a3⟩ <;> rcases h' with ⟨b1, b2⟩ | ⟨b1, ch', b2, b3⟩
  · rw [a2, b2]
  · exact absurd (c.mpr b1) a1
  · exact absurd (c.mp a1) b1
  · rw [a3, b3]; exact lex_un hn e a2 b2 r hr.1 hr.2
theorem paS_cg {n r z : Int} {op op' : Int → Int → Prop} (hn : 0 ≤ n ∧ n ≤ 8) (e : ∀ i j, 0 ≤ i → i < n → 0 ≤ j → j < n → (op i j ↔ op' i j)) (h : paS n op r z) : paS n op' r z := by
  have c := cpl_cg e n.toNat 0 (by omega)
  rcases h with ⟨a1, a2⟩ | ⟨a1, ch, a2, a3⟩
  · exact Or.inl ⟨fun q => a1 (c.mpr q), a2⟩
  · exact Or.inr ⟨c.mp a1, ch, lex_cg hn e a2, a3⟩
theorem t_Ev_paired {σ : eS} {s m r : Int} (h : IA σ ∧ iSe σ ∧ σ 16 3 + 64 < 2147483647) : MtI shA M_Ev_paired [vr 0, vi s, vi m, vi r] σ (fun σ' z => QA σ σ' ∧ ((¬ okPr (tabA σ s) (σ (s.toNat + 2) 1) m r ∧ z = -1) ∨ (okPr (tabA σ s) (σ (s.toNat + 2) 1) m r ∧ paS (σ (s.toNat + 2) 1) (fun i j => m ≤ cT σ (s.toNat + 2) i j) r z))) := by
  refine Mt.of okM_Ev_paired (Nat.le_of_ble_eq_true rfl) (fun hk hg => ?_)
  obtain ⟨h, hS, hS2⟩ := h
  refine ok_aload_n 0 rfl rfl rfl (ok_iload_n 1 rfl rfl rfl (ok_callVR (M' := M_Ev_filledSlot) (as := [_]) 2 rfl rfl ml_X11_137 (s_Ev_filledSlot) rfl rfl (Nat.le_of_ble_eq_true rfl) ⟨Nat.le_of_ble_eq_true rfl, Nat.le_of_ble_eq_true rfl⟩ rfl (Nat.le_of_ble_eq_true rfl) (fun σ' z hz => ?_)))
  obtain ⟨hs_, hz⟩ := hz
  rw [hs_]; clear hs_ σ'
  rcases hz with ⟨q, q0⟩ | ⟨q1, q2, q, q3⟩
  · subst q
    refine ok_ast4 3 rfl rfl rfl (ok_aload 4 rfl rfl rfl (ok_ifnullN 5 28 rfl rfl rfl (ok_iconst 13 rfl rfl (by decide) (ok_iret 14 rfl rfl rfl ?_))))
    exact ⟨_, rfl, QA_rf h, Or.inl ⟨fun c => q0 c.1, rfl⟩⟩
  · subst q
    have ht := sl_tA ⟨q1, q2⟩
    have hT := (h.2.1 _ ht).1
    have m1 := hT.1
    have m2 := hT.2.1
    refine ok_ast4 3 rfl rfl rfl (ok_aload 4 rfl rfl rfl (ok_ifnull 5 rfl rfl (ok_iload_n 6 rfl rfl rfl (ok_callSI (M' := M_Ev_isCell) (as := [_]) 7 rfl rfl ml_X11_208 (s_Ev_isCell) ⟨Nat.le_of_ble_eq_true rfl, Nat.le_of_ble_eq_true rfl⟩ rfl (Nat.le_of_ble_eq_true rfl) (fun σ' z0 x0 => ?_)))))
    obtain ⟨hs_, x0⟩ := x0
    rw [hs_]; clear hs_ σ'
    refine ok_if_eq 8 28 rfl rfl rfl (fun h16 => ?_) (fun h16 => ?_)
    · refine ok_iconst 13 rfl rfl (by decide) (ok_iret 14 rfl rfl rfl ?_)
      exact ⟨_, rfl, QA_rf h, Or.inl ⟨fun c => by have c2 := c.2.1; unfold isL at c2; omega, rfl⟩⟩
    · refine ok_aload 9 rfl rfl rfl (ok_iload_n 10 rfl rfl rfl (ok_callVI (M' := M_Ta_has) (as := [_]) 11 rfl rfl ml_X11_129 (s_Ta_has ht) (sT ht) rfl (Nat.le_of_ble_eq_true rfl) ⟨Nat.le_of_ble_eq_true rfl, Nat.le_of_ble_eq_true rfl⟩ rfl (Nat.le_of_ble_eq_true rfl) (fun σ' z1 x1 => ?_)))
      obtain ⟨hs_, x1⟩ := x1
      rw [hs_]; clear hs_ σ'
      refine ok_if_ne 12 30 rfl rfl rfl (fun h25 => ?_) (fun h25 => ?_)
      · refine ok_aload_n 15 rfl rfl rfl (ok_getR 16 rfl rfl fl_X11_32 rfl rfl (ok_aload 17 rfl rfl rfl (ok_iload_n 18 rfl rfl rfl (ok_callVL (M' := M_Ta_joinedBy) (as := [_]) 19 rfl rfl ml_X11_119 (t_Ta_joinedBy ht hT) (sT ht) rfl (Nat.le_of_ble_eq_true rfl) ⟨Nat.le_of_ble_eq_true rfl, Nat.le_of_ble_eq_true rfl⟩ rfl (Nat.le_of_ble_eq_true rfl) (fun σ' z2 x2 => ?_)))))
        obtain ⟨hs_, x2⟩ := x2
        rw [hs_]; clear hs_ σ'
        refine ok_aload 20 rfl rfl rfl (ok_getI 21 rfl rfl fl_X11_103 (sT ht) rfl (Or.inl rfl) (ok_callVI (M' := M_Ch_findFirst) (as := [_, _]) 22 rfl rfl ml_X11_223 (t_Ch_findFirst h.2.2.1 ⟨m1, m2⟩ x2 hS (by omega)) rfl rfl (Nat.le_of_ble_eq_true rfl) ⟨Nat.le_of_ble_eq_true rfl, Nat.le_of_ble_eq_true rfl⟩ rfl (Nat.le_of_ble_eq_true rfl) (fun τ z3 f => ?_)))
        obtain ⟨f1, f2, f3, f4, f5⟩ := f
        have fq : fr rgCh σ τ := f1.mono (fun c k w => by simp only [rgFf, rgCh] at w ⊢; omega)
        have hQ := QA_C h fq f2 (fun _ _ => ⟨f4, by omega, by omega⟩)
        have hok : okPr (tabA σ s) (σ (s.toNat + 2) 1) m r := ⟨⟨q1, q2, q3⟩, by unfold isL; omega, by omega, by omega⟩
        refine ok_if_eq 23 63 rfl rfl rfl (fun h48 => ?_) (fun h48 => ?_)
        · refine ok_iconst 30 rfl rfl (by decide) (ok_iret 31 rfl rfl rfl ?_)
          refine ⟨_, rfl, hQ, Or.inr ⟨hok, ?_⟩⟩
          rcases f5 with ⟨g1, g2⟩ | ⟨g1, g2, g3⟩
          · first | (exfalso; omega) | exact Or.inl ⟨g2, rfl⟩
          · first | (exfalso; omega) | exact Or.inr ⟨g2, fun i => τ 17 i, g3, rfl⟩
        · refine ok_aload_n 24 rfl rfl rfl (ok_getR 25 rfl rfl fl_X11_32 rfl rfl (ok_getR 26 rfl rfl fl_X11_227 rfl rfl (ok_iload_n 27 rfl rfl rfl (ok_iald 28 rfl rfl rfl (by first | omega | (simp [up_if]; omega) | (simp [up_if] at *; omega)) (ok_goto 29 64 rfl rfl rfl (ok_iret 31 rfl rfl rfl ?_))))))
          refine ⟨_, rfl, hQ, Or.inr ⟨hok, ?_⟩⟩
          rcases f5 with ⟨g1, g2⟩ | ⟨g1, g2, g3⟩
          · first | (exfalso; omega) | exact Or.inl ⟨g2, rfl⟩
          · first | (exfalso; omega) | exact Or.inr ⟨g2, fun i => τ 17 i, g3, rfl⟩
      · refine ok_iconst 13 rfl rfl (by decide) (ok_iret 14 rfl rfl rfl ?_)
        exact ⟨_, rfl, QA_rf h, Or.inl ⟨fun c => by have c2 := c.2.2; omega, rfl⟩⟩
theorem t_Mo_paired {σ : eS} {s l r : Int} (hB : iB1 σ) : MtI shB M_Mo_paired [vr 0, vi s, vi l, vi r] σ (fun σ' z => fr rgS σ σ' ∧ ((¬ okPr (tabB σ s) (σ 1 s) l r ∧ z = -1) ∨ (okPr (tabB σ s) (σ 1 s) l r ∧ paS (σ 1 s) (fun i j => l ≤ cB σ s i j) r z))) := by
  refine Mt.of okM_Mo_paired (Nat.le_of_ble_eq_true rfl) (fun hk hg => ?_)
  refine ok_aload_n 0 rfl rfl rfl (ok_iload_n 1 rfl rfl rfl (ok_callVI (M' := M_Mo_isTable) (as := [_]) 2 rfl rfl ml_X12_111 (s_Mo_isTable_r) rfl rfl (Nat.le_of_ble_eq_true rfl) ⟨Nat.le_of_ble_eq_true rfl, Nat.le_of_ble_eq_true rfl⟩ rfl (Nat.le_of_ble_eq_true rfl) (fun σ' z1 a1 => ?_)))
  obtain ⟨hs_, a1⟩ := a1
  rw [hs_]; clear hs_ σ'
  refine ok_if_eq 3 33 rfl rfl rfl (fun h5 => ?_) (fun h5 => ?_)
  · refine ok_iconst 19 rfl rfl (by decide) (ok_iret 20 rfl rfl rfl ?_)
    exact ⟨_, rfl, fr.rf, Or.inl ⟨fun c => no1 a1 h5 c.1, rfl⟩⟩
  · refine ok_iload_n 4 rfl rfl rfl (ok_callSI (M' := M_Mo_isLeast) (as := [_]) 5 rfl rfl ml_X12_343 (s_Mo_isLeast) ⟨Nat.le_of_ble_eq_true rfl, Nat.le_of_ble_eq_true rfl⟩ rfl (Nat.le_of_ble_eq_true rfl) (fun σ' z2 a2 => ?_))
    obtain ⟨hs_, a2⟩ := a2
    rw [hs_]; clear hs_ σ'
    refine ok_if_eq 6 33 rfl rfl rfl (fun h12 => ?_) (fun h12 => ?_)
    · refine ok_iconst 19 rfl rfl (by decide) (ok_iret 20 rfl rfl rfl ?_)
      exact ⟨_, rfl, fr.rf, Or.inl ⟨fun c => no1 a2 h12 c.2.1, rfl⟩⟩
    · obtain ⟨u1, u2, u3⟩ := yes1 a1 h5
      have tn := hB.1 s u1 u2
      refine ok_iload_n 7 rfl rfl rfl (ok_i2l 8 rfl rfl (ok_lconst (w := 0) 9 rfl rfl rfl (by decide) (ok_aload_n 10 rfl rfl rfl (ok_getR 11 rfl rfl fl_X12_7 rfl rfl (ok_iload_n 12 rfl rfl rfl (ok_iald 13 rfl rfl rfl (by first | omega | (simp [up_if]; omega) | (simp [up_if] at *; omega)) (ok_iconst 14 rfl rfl (by decide) (ok_isub 15 rfl rfl (by first | omega | (simp [up_if]; omega) | (simp [up_if] at *; omega)) (ok_i2l 16 rfl rfl (ok_callSI (M' := M_Mo_isIn) (as := [_, _, _]) 17 rfl rfl ml_X12_99 (s_Mo_isIn_r) ⟨Nat.le_of_ble_eq_true rfl, Nat.le_of_ble_eq_true rfl⟩ rfl (Nat.le_of_ble_eq_true rfl) (fun σ' z3 a3 => ?_)))))))))))
      obtain ⟨hs_, a3⟩ := a3
      rw [hs_]; clear hs_ σ'
      refine ok_if_ne 18 35 rfl rfl rfl (fun h30 => ?_) (fun h30 => ?_)
      · have f := wo_fr σ s (σ 1 s) (σ 1 s * σ 1 s)
        have hr := yes1 a3 h30
        have e22 := wo_22 σ s
        have hnW : nW (wo σ s (σ 1 s) (σ 1 s * σ 1 s)) := by unfold nW; rw [e22]; omega
        have hag := wo_wkB hB ⟨u1, u2, u3⟩
        have hok : okPr (tabB σ s) (σ 1 s) l r := ⟨⟨u1, u2, u3⟩, yes1 a2 h12, by omega, by omega⟩
        have he : ∀ i j, 0 ≤ i → i < σ 1 s → 0 ≤ j → j < σ 1 s → (opB (wo σ s (σ 1 s) (σ 1 s * σ 1 s)) l (-1) (-1) i j ↔ l ≤ cB σ s i j) := fun i j a b c d => by rw [opB_m i j a b c d, hag i j a b c d]
        refine ok_aload_n 21 rfl rfl rfl (ok_iload_n 22 rfl rfl rfl (ok_callVV (M' := M_Mo_worksOn) (as := [_]) 23 rfl rfl ml_X12_294 (s_Mo_worksOn hB ⟨u1, u2, u3⟩) rfl rfl (Nat.le_of_ble_eq_true rfl) ⟨Nat.le_of_ble_eq_true rfl, Nat.le_of_ble_eq_true rfl⟩ rfl (Nat.le_of_ble_eq_true rfl) (fun σ' hz => ?_)))
        rw [hz]
        clear hz σ'
        refine ok_aload_n 24 rfl rfl rfl (ok_iload_n 25 rfl rfl rfl (ok_iconst 26 rfl rfl (by decide) (ok_iconst 27 rfl rfl (by decide) (ok_callVI (M' := M_Mo_isChosen) (as := [_, _, _]) 28 rfl rfl ml_X12_260 (s_Mo_isChosen hnW) rfl rfl (Nat.le_of_ble_eq_true rfl) ⟨Nat.le_of_ble_eq_true rfl, Nat.le_of_ble_eq_true rfl⟩ rfl (Nat.le_of_ble_eq_true rfl) (fun σ' z hz => ?_)))))
        have g := f.tr hz.fr1
        rw [e22] at hz
        refine ok_if_eq 29 59 rfl rfl rfl (fun h47 => ?_) (fun h47 => ?_)
        · refine ok_iconst 35 rfl rfl (by decide) (ok_iret 36 rfl rfl rfl ?_)
          refine ⟨_, rfl, g, Or.inr ⟨hok, paS_cg ⟨by omega, by omega⟩ he ?_⟩⟩
          rcases hz with ⟨y1, y2, -⟩ | ⟨y1, y2, -, y3⟩
          · first | (exfalso; omega) | exact Or.inl ⟨y2, rfl⟩
          · first | (exfalso; omega) | exact Or.inr ⟨y2, fun i => σ' 11 i, lex_fst y3, rfl⟩
        · refine ok_aload_n 30 rfl rfl rfl (ok_getR 31 rfl rfl fl_X12_45 rfl rfl (ok_iload_n 32 rfl rfl rfl (ok_iald 33 rfl rfl rfl (by first | omega | (simp [up_if]; omega) | (simp [up_if] at *; omega)) (ok_goto 34 60 rfl rfl rfl (ok_iret 36 rfl rfl rfl ?_)))))
          refine ⟨_, rfl, g, Or.inr ⟨hok, paS_cg ⟨by omega, by omega⟩ he ?_⟩⟩
          rcases hz with ⟨y1, y2, -⟩ | ⟨y1, y2, -, y3⟩
          · first | (exfalso; omega) | exact Or.inl ⟨y2, rfl⟩
          · first | (exfalso; omega) | exact Or.inr ⟨y2, fun i => σ' 11 i, lex_fst y3, rfl⟩
      · refine ok_iconst 19 rfl rfl (by decide) (ok_iret 20 rfl rfl rfl ?_)
        exact ⟨_, rfl, fr.rf, Or.inl ⟨fun c => no1 a3 h30 (by have := c.2.2; omega), rfl⟩⟩
end
section
/-! SHOW: what is written, as one list -/
def bfl (f : Int → Int) (n : Int) (l : List Int) : Prop := n = (l.length : Int) ∧ ∀ k : Nat, k < l.length → l[k]? = some (f (k : Int))
theorem bfl_app {f g : Int → Int} {n c : Int} {l : List Int} (h : bfl f n l) (hg : ∀ k, g k = if k = n then c else f k) : bfl g (n + 1) (l ++ [c]) := by
  obtain ⟨h1, h2⟩ := h
  have e : (l ++ [c]).length = l.length + 1 := by simp
  refine ⟨by rw [e]; omega, fun k hk => ?_⟩
  rw [e] at hk
  rw [hg]
  by_cases q : k < l.length
  · rw [List.getElem?_append_left q, if_neg (by omega)]
    exact h2 k q
  · have e2 : k = l.length := by omega
    rw [List.getElem?_append_right (by omega), if_pos (by omega), e2]
    simp
/-- a number's digits, from the e-th on -/
def dgI (w : Int) : Nat → List Int
  | 0 => []
  | e + 1 => (48 + w / tn (e : Int) % 10) :: dgI w e
theorem dgI_s {w e : Int} (h : 0 ≤ e) : dgI w (e + 1).toNat = (48 + w / tn e % 10) :: dgI w e.toNat := by
  rw [show (e + 1).toNat = e.toNat + 1 by omega, dgI, Int.toNat_of_nonneg h]
def eN (w : Int) : Int := if w ≤ 9 then 0 else if w ≤ 99 then 1 else if w ≤ 999 then 2 else if w ≤ 9999 then 3 else if w ≤ 99999 then 4 else if w ≤ 999999 then 5 else if w ≤ 9999999 then 6 else if w ≤ 99999999 then 7 else 8
theorem eN_bd (w : Int) : 0 ≤ eN w ∧ eN w ≤ 8 := by unfold eN; omega
theorem eN_of {w e : Int} (hw : 0 ≤ w ∧ w ≤ 799999992) (he : 0 ≤ e ∧ e ≤ 8) (h1 : w / tn e ≤ 9) (h2 : e = 0 ∨ 9 < w / tn (e - 1)) : e = eN w := by
  have t : tn 0 = 1 ∧ tn 1 = 10 ∧ tn 2 = 100 ∧ tn 3 = 1000 ∧ tn 4 = 10000 ∧ tn 5 = 100000 ∧ tn 6 = 1000000 ∧ tn 7 = 10000000 ∧ tn 8 = 100000000 := ⟨rfl, rfl, rfl, rfl, rfl, rfl, rfl, rfl, rfl⟩
  obtain ⟨t0, t1, t2, t3, t4, t5, t6, t7, t8⟩ := t
  rcases (show e = 0 ∨ e = 1 ∨ e = 2 ∨ e = 3 ∨ e = 4 ∨ e = 5 ∨ e = 6 ∨ e = 7 ∨ e = 8 by omega) with q | q | q | q | q | q | q | q | q <;> subst q
  · rw [t0] at h1; unfold eN; omega
  · rw [t1] at h1; rw [show (1 : Int) - 1 = 0 by decide, t0] at h2; unfold eN; omega
  · rw [t2] at h1; rw [show (2 : Int) - 1 = 1 by decide, t1] at h2; unfold eN; omega
  · rw [t3] at h1; rw [show (3 : Int) - 1 = 2 by decide, t2] at h2; unfold eN; omega
  · rw [t4] at h1; rw [show (4 : Int) - 1 = 3 by decide, t3] at h2; unfold eN; omega
  · rw [t5] at h1; rw [show (5 : Int) - 1 = 4 by decide, t4] at h2; unfold eN; omega
  · rw [t6] at h1; rw [show (6 : Int) - 1 = 5 by decide, t5] at h2; unfold eN; omega
  · rw [t7] at h1; rw [show (7 : Int) - 1 = 6 by decide, t6] at h2; unfold eN; omega
  · rw [t8] at h1; rw [show (8 : Int) - 1 = 7 by decide, t7] at h2; unfold eN; omega
def coL (col : Int → Int) : Nat → List Int
  | 0 => []
  | k + 1 => coL col k ++ [48 + col (k : Int)]
theorem coL_s {col : Int → Int} {k : Int} (h : 0 ≤ k) : coL col (k + 1).toNat = coL col k.toNat ++ [48 + col k] := by
  rw [show (k + 1).toNat = k.toNat + 1 by omega, coL, Int.toNat_of_nonneg h]
theorem coL_cg {f g : Int → Int} : ∀ {k : Nat}, (∀ i : Int, 0 ≤ i → i < k → f i = g i) → coL f k = coL g k
  | 0, _ => rfl
  | k + 1, h => by rw [coL, coL, coL_cg (fun i a b => h i a (by omega)), h k (by omega) (by omega)]
def shL (wt : Int → Int) (col : Int → Int → Int) (n : Int) : Nat → List Int
  | 0 => []
  | p + 1 => shL wt col n p ++ dgI (wt (p : Int)) (eN (wt (p : Int)) + 1).toNat ++ [58] ++ coL (col (p : Int)) n.toNat ++ [59]
theorem shL_s {wt : Int → Int} {col : Int → Int → Int} {n p : Int} (h : 0 ≤ p) : shL wt col n (p + 1).toNat = shL wt col n p.toNat ++ dgI (wt p) (eN (wt p) + 1).toNat ++ [58] ++ coL (col p) n.toNat ++ [59] := by
  rw [show (p + 1).toNat = p.toNat + 1 by omega, shL, Int.toNat_of_nonneg h]
theorem shL_cg {wt wt' : Int → Int} {col col' : Int → Int → Int} {n : Int} : ∀ {p : Nat}, (∀ q : Int, 0 ≤ q → q < p → wt q = wt' q ∧ ∀ i, 0 ≤ i → i < n → col q i = col' q i) → shL wt col n p = shL wt' col' n p
  | 0, _ => rfl
  | p + 1, h => by
    obtain ⟨a, b⟩ := h p (by omega) (by omega)
    rw [shL, shL, shL_cg (fun q x y => h q x (by omega)), a, coL_cg (fun i x y => b i x (by omega))]
/-! the class -/
theorem t_Sh_put {σ : eS} {z : Int} (h : 0 ≤ σ 46 1 ∧ σ 46 1 < 1216) : MtV shA M_Sh_put [vr 46, vi z] σ (fun σ' => fr rgS1 σ σ' ∧ σ' 46 1 = σ 46 1 + 1 ∧ ∀ k, σ' 47 k = if k = σ 46 1 then z else σ 47 k) := by
  refine Mt.of okM_Sh_put (Nat.le_of_ble_eq_true rfl) (fun hk hg => ?_)
  refine ok_aload_n 0 rfl rfl rfl (ok_getI 1 rfl rfl fl_X8_15 rfl rfl (Or.inl rfl) (ok_sipush 2 rfl rfl (by decide) (by decide) (ok_icmp_ge 3 30 rfl rfl rfl (fun h7 => ?_) (fun h7 => ?_))))
  · exfalso; omega
  · refine ok_aload_n 4 rfl rfl rfl (ok_getR 5 rfl rfl fl_X8_11 rfl rfl (ok_aload_n 6 rfl rfl rfl (ok_getI 7 rfl rfl fl_X8_15 rfl rfl (Or.inl rfl) (ok_iload_n 8 rfl rfl rfl (ok_iast 9 rfl rfl rfl (by first | omega | (simp [up_if]; omega) | (simp [up_if] at *; omega)) (ok_aload_n 10 rfl rfl rfl (ok_dup 11 rfl rfl rfl (ok_getI 12 rfl rfl fl_X8_15 rfl rfl (Or.inl rfl) (ok_iconst 13 rfl rfl (by decide) (ok_iadd 14 rfl rfl (by first | omega | (simp [up_if]; omega) | (simp [up_if] at *; omega)) (ok_putI 15 rfl rfl fl_X8_15 rfl rfl rfl rfl (ok_vret 16 rfl rfl rfl ?_))))))))))))
    refine ⟨rfl, fr_up (fr_up fr.rf (by simp [rgS1])) (by simp [rgS1]), by simp [up_if], fun k => ?_⟩
    rw [up_ne _ _ _ _ (by decide), up_if]
    by_cases q : k = σ 46 1
    · rw [if_pos ⟨rfl, q⟩, if_pos q]
    · rw [if_neg (fun y => q y.2), if_neg q]
theorem t_Sh_putNumber {σ : eS} {z : Int} {l : List Int} (hz : 0 ≤ z ∧ z ≤ 799999992) (hl : 0 ≤ σ 46 1 ∧ σ 46 1 + 9 ≤ 1216) (hb : bfl (fun k => σ 47 k) (σ 46 1) l) : MtV shA M_Sh_putNumber [vr 46, vi z] σ (fun σ' => fr rgS1 σ σ' ∧ (0 ≤ σ' 46 1 ∧ σ' 46 1 ≤ σ 46 1 + 9) ∧ bfl (fun k => σ' 47 k) (σ' 46 1) (l ++ dgI z (eN z + 1).toNat)) := by
  refine Mt.of okM_Sh_putNumber (Nat.le_of_ble_eq_true rfl) (fun hk hg => ?_)
  have eb := eN_bd z
  refine ok_iconst 0 rfl rfl (by decide) (ok_ist2 1 rfl rfl rfl (ok_iconst 2 rfl rfl (by decide) (ok_ist3 3 rfl rfl rfl ?_)))
  refine lpO (fun (j : Int) => [some (vr 46), some (vi z), some (vi (tn j)), some (vi j)]) (fun _ => σ) (fun j => 0 ≤ j ∧ j ≤ 8 ∧ (j = 0 ∨ 9 < z / tn (j - 1))) (fun j => (9 - j).toNat) ?_ 0 ⟨by omega, by omega, Or.inl rfl⟩
  rintro j ⟨j1, j2, j3⟩ ih
  obtain ⟨t1, t2, t3⟩ := tn_s (e := j) ⟨j1, j2⟩
  have dv := div_bd (u := z) (g := tn j) (B := 799999992) hz t2
  refine ok_iload_n 4 rfl rfl rfl (ok_bipush 5 rfl rfl (by decide) (by decide) (ok_icmp_ge 6 29 rfl rfl rfl (fun h7 => ?_) (fun h7 => ?_)))
  · exfalso; omega
  · refine ok_iload_n 7 rfl rfl rfl (ok_iload_n 8 rfl rfl rfl (ok_idiv 9 rfl rfl (by first | omega | (simp [up_if]; omega) | (simp [up_if] at *; omega)) (by first | omega | (simp [up_if]; omega) | (simp [up_if] at *; omega)) (ok_bipush 10 rfl rfl (by decide) (by decide) (ok_icmp_le 11 29 rfl rfl rfl (fun h15 => ?_) (fun h15 => ?_)))))
    · refine ok_iconst 18 rfl rfl (by decide) (ok_ist3 19 rfl rfl rfl ?_)
      have ej := eN_of hz ⟨j1, j2⟩ (by omega) j3
      clear ih j3 h15 dv t1 t2 t3
      refine lpO3 (fun (e c : Int) (_ : eS) => [some (vr 46), some (vi z), some (vi (tn e)), some (vi c)]) (fun _ _ ρ => ρ) (fun e c ρ => (-1 ≤ e ∧ e ≤ eN z ∧ c = eN z - e) ∧ fr rgS1 σ ρ ∧ ρ 46 1 = σ 46 1 + c ∧ ∃ l', bfl (fun k => ρ 47 k) (ρ 46 1) l' ∧ l' ++ dgI z (e + 1).toNat = l ++ dgI z (eN z + 1).toNat) (fun e _ _ => (e + 1).toNat) ?_ j 0 σ ⟨⟨by omega, by omega, by omega⟩, fr.rf, by omega, l, hb, by rw [ej]⟩
      clear ej h7 j1 j2 j
      rintro e c ρ ⟨⟨e1, e2, e3⟩, f, s1, l', hb', hl'⟩ ih
      refine ok_iload_n 20 rfl rfl rfl (ok_bipush 21 rfl rfl (by decide) (by decide) (ok_icmp_ge 22 65 rfl rfl rfl (fun h34 => ?_) (fun h34 => ?_)))
      · exfalso; omega
      · refine ok_iload_n 23 rfl rfl rfl (ok_if_le 24 65 rfl rfl rfl (fun h38 => ?_) (fun h38 => ?_))
        · refine ok_vret 40 rfl rfl rfl ?_
          have e0 : e = -1 := by
            by_cases q : 0 ≤ e
            · have := (tn_s (e := e) ⟨q, by omega⟩).2.1; omega
            · omega
          refine ⟨rfl, f, ⟨by omega, by omega⟩, ?_⟩
          rw [← hl', e0]
          show bfl _ _ (l' ++ [])
          rw [List.append_nil]
          exact hb'
        · have e0 : 0 ≤ e := tn_n (by omega)
          obtain ⟨t1, t2, t3⟩ := tn_s (e := e) ⟨e0, by omega⟩
          have dv := div_bd (u := z) (g := tn e) (B := 799999992) hz t2
          refine ok_aload_n 25 rfl rfl rfl (ok_bipush 26 rfl rfl (by decide) (by decide) (ok_iload_n 27 rfl rfl rfl (ok_iload_n 28 rfl rfl rfl (ok_idiv 29 rfl rfl (by first | omega | (simp [up_if]; omega) | (simp [up_if] at *; omega)) (by first | omega | (simp [up_if]; omega) | (simp [up_if] at *; omega)) (ok_bipush 30 rfl rfl (by decide) (by decide) (ok_irem 31 rfl rfl (by first | omega | (simp [up_if]; omega) | (simp [up_if] at *; omega)) (by first | omega | (simp [up_if]; omega) | (simp [up_if] at *; omega)) (ok_iadd 32 rfl rfl (by first | omega | (simp [up_if]; omega) | (simp [up_if] at *; omega)) (ok_callVV (M' := M_Sh_put) (as := [_]) 33 rfl rfl ml_X8_31 (t_Sh_put ⟨by omega, by omega⟩) rfl rfl (Nat.le_of_ble_eq_true rfl) ⟨Nat.le_of_ble_eq_true rfl, Nat.le_of_ble_eq_true rfl⟩ rfl (Nat.le_of_ble_eq_true rfl) (fun τ f1 => ?_)))))))))
          refine ok_iload_n 34 rfl rfl rfl (ok_bipush 35 rfl rfl (by decide) (by decide) (ok_idiv 36 rfl rfl (by first | omega | (simp [up_if]; omega) | (simp [up_if] at *; omega)) (by first | omega | (simp [up_if]; omega) | (simp [up_if] at *; omega)) (ok_ist2 37 rfl rfl rfl (ok_inc3 38 rfl rfl rfl (by first | omega | (simp [up_if]; omega) | (simp [up_if] at *; omega)) (ok_goto 39 31 rfl rfl rfl ?_)))))
          rw [tn_d ⟨e0, by omega⟩]
          refine ih (e - 1) (c + 1) τ ⟨⟨by omega, by omega, by omega⟩, f.tr f1.1, by rw [f1.2.1]; omega, l' ++ [48 + z / tn e % 10], by rw [f1.2.1]; exact bfl_app hb' f1.2.2, ?_⟩ (by omega)
          rw [← hl', dgI_s e0, show e - 1 + 1 = e by omega, List.append_assoc]
          rfl
    · have e8 : j ≠ 8 := by
        intro q
        rw [q, tn_8] at h15
        omega
      refine ok_iload_n 12 rfl rfl rfl (ok_bipush 13 rfl rfl (by decide) (by decide) (ok_imul 14 rfl rfl (by first | omega | (simp [up_if]; omega) | (simp [up_if] at *; omega)) (ok_ist2 15 rfl rfl rfl (ok_inc3 16 rfl rfl rfl (by first | omega | (simp [up_if]; omega) | (simp [up_if] at *; omega)) (ok_goto 17 4 rfl rfl rfl ?_)))))
      rw [t1]
      exact ih (j + 1) ⟨by omega, by omega, Or.inr (by rw [show j + 1 - 1 = j by omega]; omega)⟩ (by omega)
theorem t_Sh_write {σ : eS} (hm : iMi σ) : MtV shA M_Sh_write [vr 46, vr 22] σ (fun σ' => fr rgS1 σ σ' ∧ iSh σ' ∧ bfl (fun k => σ' 47 k) (σ' 46 1) (shL (wA σ) (kA σ) (σ 22 4) (σ 22 5).toNat)) := by
  refine Mt.of okM_Sh_write (Nat.le_of_ble_eq_true rfl) (fun hk hg => ?_)
  obtain ⟨⟨h1, h2, h3, h4, h5, h6, h7⟩, a, b, d⟩ := id hm
  refine ok_aload_n 0 rfl rfl rfl (ok_iconst 1 rfl rfl (by decide) (ok_putI 2 rfl rfl fl_X8_15 rfl rfl rfl rfl (ok_iconst 3 rfl rfl (by decide) (ok_ist2 4 rfl rfl rfl ?_))))
  refine lpO2 (fun (k : Int) (_ : eS) => [some (vr 46), some (vr 22), some (vi k), none]) (fun _ ρ => ρ) (fun k ρ => 0 ≤ k ∧ k ≤ σ 22 5 ∧ fr rgS1 σ ρ ∧ (0 ≤ ρ 46 1 ∧ ρ 46 1 ≤ 19 * k) ∧ bfl (fun k => ρ 47 k) (ρ 46 1) (shL (wA σ) (kA σ) (σ 22 4) k.toNat)) (fun k _ => (64 - k).toNat) ?_ 0 _ ⟨by omega, by omega, fr_up fr.rf (by simp [rgS1]), by simp [up_if], by simp [up_if, shL], fun k hk => by cases hk⟩
  rintro k ρ ⟨k1, k2, f, hS, hb⟩ ih
  have e5 : ρ 22 5 = σ 22 5 := f 22 5 (by simp [rgS1])
  refine ok_iload_n 5 rfl rfl rfl (ok_aload_n 6 rfl rfl rfl (ok_getI 7 rfl rfl fl_X8_19 rfl rfl (Or.inl rfl) (ok_icmp_ge 8 72 rfl rfl rfl (fun h12 => ?_) (fun h12 => ?_))))
  · refine ok_vret 39 rfl rfl rfl ?_
    exact ⟨rfl, f, ⟨hS.1, by omega⟩, by rw [show σ 22 5 = k by omega]; exact hb⟩
  · have w0 := mi_bd hm k1 (by omega)
    have ew : ρ 23 k = wA σ k := f 23 k (by simp [rgS1])
    have wk0 : wA σ k = σ 23 k := rfl
    refine ok_aload_n 9 rfl rfl rfl (ok_aload_n 10 rfl rfl rfl (ok_getR 11 rfl rfl fl_X8_24 rfl rfl (ok_iload_n 12 rfl rfl rfl (ok_iald 13 rfl rfl rfl (by first | omega | (simp [up_if]; omega) | (simp [up_if] at *; omega)) (ok_callVV (M' := M_Sh_putNumber) (as := [_]) 14 rfl rfl ml_X8_27 (t_Sh_putNumber ⟨by omega, by omega⟩ ⟨hS.1, by omega⟩ hb) rfl rfl (Nat.le_of_ble_eq_true rfl) ⟨Nat.le_of_ble_eq_true rfl, Nat.le_of_ble_eq_true rfl⟩ rfl (Nat.le_of_ble_eq_true rfl) (fun ρ1 f1 => ?_))))))
    obtain ⟨g1, g2, g3⟩ := f1
    rw [ew] at g3
    refine ok_aload_n 15 rfl rfl rfl (ok_bipush 16 rfl rfl (by decide) (by decide) (ok_callVV (M' := M_Sh_put) (as := [_]) 17 rfl rfl ml_X8_31 (t_Sh_put ⟨by omega, by omega⟩) rfl rfl (Nat.le_of_ble_eq_true rfl) ⟨Nat.le_of_ble_eq_true rfl, Nat.le_of_ble_eq_true rfl⟩ rfl (Nat.le_of_ble_eq_true rfl) (fun ρ2 f2 => ?_)))
    obtain ⟨u1, u2, u3⟩ := f2
    have b2 := bfl_app g3 u3
    rw [← u2] at b2
    refine ok_iconst 18 rfl rfl (by decide) (ok_ist3 19 rfl rfl rfl ?_)
    have f3 := (f.tr g1).tr u1
    obtain ⟨B, eB⟩ : ∃ B, B = shL (wA σ) (kA σ) (σ 22 4) k.toNat ++ dgI (wA σ k) (eN (wA σ k) + 1).toNat ++ [58] := ⟨_, rfl⟩
    rw [← eB] at b2
    refine lpO2 (fun (j : Int) (_ : eS) => [some (vr 46), some (vr 22), some (vi k), some (vi j)]) (fun _ ρ => ρ) (fun j ρ => 0 ≤ j ∧ j ≤ σ 22 4 ∧ fr rgS1 σ ρ ∧ (0 ≤ ρ 46 1 ∧ ρ 46 1 ≤ 19 * k + 10 + j) ∧ bfl (fun k => ρ 47 k) (ρ 46 1) (B ++ coL (kA σ k) j.toNat)) (fun j _ => (8 - j).toNat) ?_ 0 ρ2 ⟨by omega, by omega, f3, ⟨by omega, by omega⟩, by show bfl _ _ (B ++ []); rw [List.append_nil]; exact b2⟩
    have kl : k < σ 22 5 := by omega
    clear f3 b2 u1 u2 u3 ρ2 g1 g2 g3 ρ1 w0 e5 ew h12 f hS hb ρ
    rintro j ρ ⟨j1, j2, f, hS, hb⟩ ih2
    have e4 : ρ 22 4 = σ 22 4 := f 22 4 (by simp [rgS1])
    refine ok_iload_n 20 rfl rfl rfl (ok_aload_n 21 rfl rfl rfl (ok_getI 22 rfl rfl fl_X8_34 rfl rfl (Or.inl rfl) (ok_icmp_ge 23 60 rfl rfl rfl (fun h38 => ?_) (fun h38 => ?_))))
    · refine ok_aload_n 34 rfl rfl rfl (ok_bipush 35 rfl rfl (by decide) (by decide) (ok_callVV (M' := M_Sh_put) (as := [_]) 36 rfl rfl ml_X8_31 (t_Sh_put ⟨by omega, by omega⟩) rfl rfl (Nat.le_of_ble_eq_true rfl) ⟨Nat.le_of_ble_eq_true rfl, Nat.le_of_ble_eq_true rfl⟩ rfl (Nat.le_of_ble_eq_true rfl) (fun ρ1 f1 => ?_)))
      refine ok_inc2 37 rfl rfl rfl (by first | omega | (simp [up_if]; omega) | (simp [up_if] at *; omega)) (ok_goto 38 7 rfl rfl rfl ?_)
      obtain ⟨u1, u2, u3⟩ := f1
      have b2 := bfl_app hb u3
      rw [← u2, show j = σ 22 4 by omega, eB, ← shL_s k1] at b2
      exact ok_fg [some (vr 46), some (vr 22), some (vi (k + 1)), none] ⟨rfl, rfl, rfl, trivial⟩ (ih (k + 1) ρ1 ⟨by omega, by omega, f.tr u1, ⟨by omega, by omega⟩, b2⟩ (by omega))
    · refine ok_aload_n 24 rfl rfl rfl (ok_bipush 25 rfl rfl (by decide) (by decide) (ok_aload_n 26 rfl rfl rfl (ok_iload_n 27 rfl rfl rfl (ok_iload_n 28 rfl rfl rfl (ok_callVI (M' := M_Mi_columnOf) (as := [_, _]) 29 rfl rfl ml_X8_37 (s_Mi_columnOf (iMi_cg hm (fun c k a b => f c k (by simp only [rgS1]; omega))) ⟨k1, by omega⟩ ⟨j1, by omega⟩) rfl rfl (Nat.le_of_ble_eq_true rfl) ⟨Nat.le_of_ble_eq_true rfl, Nat.le_of_ble_eq_true rfl⟩ rfl (Nat.le_of_ble_eq_true rfl) (fun σ' z hz => ?_))))))
      obtain ⟨hs_, hz⟩ := hz
      rw [hs_]; clear hs_ σ'
      have ez : z = kA σ k j := by rw [hz.1, f 24 _ (by simp [rgS1])]; unfold kA; congr 1; omega
      refine ok_iadd 30 rfl rfl (by first | omega | (simp [up_if]; omega) | (simp [up_if] at *; omega)) (ok_callVV (M' := M_Sh_put) (as := [_]) 31 rfl rfl ml_X8_31 (t_Sh_put ⟨by omega, by omega⟩) rfl rfl (Nat.le_of_ble_eq_true rfl) ⟨Nat.le_of_ble_eq_true rfl, Nat.le_of_ble_eq_true rfl⟩ rfl (Nat.le_of_ble_eq_true rfl) (fun ρ1 f1 => ?_))
      refine ok_inc3 32 rfl rfl rfl (by first | omega | (simp [up_if]; omega) | (simp [up_if] at *; omega)) (ok_goto 33 33 rfl rfl rfl ?_)
      obtain ⟨u1, u2, u3⟩ := f1
      have b2 := bfl_app hb u3
      rw [← u2, ez, List.append_assoc, ← coL_s j1] at b2
      exact ih2 (j + 1) ρ1 ⟨by omega, by omega, f.tr u1, ⟨by omega, by omega⟩, b2⟩ (by omega)
theorem t_Ev_show {σ : eS} (h : IA σ) : MtI shA M_Ev_show [vr 0] σ (fun σ' z => QAw σ σ' ∧ z = σ' 46 1 ∧ bfl (fun k => σ' 47 k) (σ' 46 1) (shL (wA σ) (kA σ) (σ 22 4) (σ 22 5).toNat)) := by
  refine Mt.of okM_Ev_show (Nat.le_of_ble_eq_true rfl) (fun hk hg => ?_)
  refine ok_aload_n 0 rfl rfl rfl (ok_getR 1 rfl rfl fl_X11_69 rfl rfl (ok_aload_n 2 rfl rfl rfl (ok_getR 3 rfl rfl fl_X11_48 rfl rfl (ok_callVV (M' := M_Sh_write) (as := [_]) 4 rfl rfl ml_X11_286 (t_Sh_write h.2.2.2.1) rfl rfl (Nat.le_of_ble_eq_true rfl) ⟨Nat.le_of_ble_eq_true rfl, Nat.le_of_ble_eq_true rfl⟩ rfl (Nat.le_of_ble_eq_true rfl) (fun τ f => ?_)))))
  refine ok_aload_n 5 rfl rfl rfl (ok_getR 6 rfl rfl fl_X11_69 rfl rfl (ok_getI 7 rfl rfl fl_X11_290 rfl rfl (Or.inl rfl) (ok_iret 8 rfl rfl rfl ?_)))
  refine ⟨_, rfl, ⟨⟨?_, iTs_cg h.2.1 (fun c k a b d => f.1 c k (by simp only [rgS1]; omega)), iCh_cg h.2.2.1 (fun k => f.1 _ k (by simp [rgS1])), iMi_cg h.2.2.2.1 (fun c k a b => f.1 c k (by simp only [rgS1]; omega)), f.2.1, iSu_cg h.2.2.2.2.2 (fun k => f.1 _ k (by simp [rgS1]))⟩, ⟨fun k => f.1 _ k (by simp [rgS1]), fun k => f.1 _ k (by simp [rgS1])⟩, fun c k a b d => f.1 c k (by simp only [rgS1]; omega), fun c k a b => f.1 c k (by simp only [rgS1]; omega), mkS_fr (by decide) f.1 (by simp [rgS1]) (fun k => by simp [rgS1])⟩, rfl, f.2.2⟩
  unfold tL
  rw [f.1 10 3 (by simp [rgS1])]
  exact h.1
def ouS (n : Int) (f : Int → Int) (i z : Int) : Prop := (z = -1 ∧ ¬ (0 ≤ i ∧ i < n)) ∨ ((0 ≤ i ∧ i < n) ∧ z = f i)
theorem t_Ev_out {σ : eS} {i : Int} (h : IA σ) : MtI shA M_Ev_out [vr 0, vi i] σ (fun σ' z => σ' = σ ∧ ouS (σ 46 1) (fun k => σ 47 k) i z) := by
  refine Mt.of okM_Ev_out (Nat.le_of_ble_eq_true rfl) (fun hk hg => ?_)
  have h1 := h.2.2.2.2.1.1
  have h2 := h.2.2.2.2.1.2
  refine ok_iload_n 0 rfl rfl rfl (ok_if_lt 1 15 rfl rfl rfl (fun h1 => ?_) (fun h1 => ?_))
  · refine ok_iconst 7 rfl rfl (by decide) (ok_goto 8 28 rfl rfl rfl (ok_iret 14 rfl rfl rfl ?_))
    refine ⟨_, rfl, rfl, ?_⟩
    first | exact Or.inl ⟨rfl, by omega⟩ | exact Or.inr ⟨by omega, rfl⟩
  · refine ok_iload_n 2 rfl rfl rfl (ok_aload_n 3 rfl rfl rfl (ok_getR 4 rfl rfl fl_X11_69 rfl rfl (ok_getI 5 rfl rfl fl_X11_290 rfl rfl (Or.inl rfl) (ok_icmp_lt 6 19 rfl rfl rfl (fun h12 => ?_) (fun h12 => ?_)))))
    · refine ok_aload_n 9 rfl rfl rfl (ok_getR 10 rfl rfl fl_X11_69 rfl rfl (ok_getR 11 rfl rfl fl_X11_291 rfl rfl (ok_iload_n 12 rfl rfl rfl (ok_iald 13 rfl rfl rfl (by first | omega | (simp [up_if]; omega) | (simp [up_if] at *; omega)) (ok_iret 14 rfl rfl rfl ?_)))))
      refine ⟨_, rfl, rfl, ?_⟩
      first | exact Or.inl ⟨rfl, by omega⟩ | exact Or.inr ⟨by omega, rfl⟩
    · refine ok_iconst 7 rfl rfl (by decide) (ok_goto 8 28 rfl rfl rfl (ok_iret 14 rfl rfl rfl ?_))
      refine ⟨_, rfl, rfl, ?_⟩
      first | exact Or.inl ⟨rfl, by omega⟩ | exact Or.inr ⟨by omega, rfl⟩
/-! the reference -/
theorem t_Mo_says {σ : eS} {b : Int} (h : 0 ≤ σ 0 42 ∧ σ 0 42 < 1400) : MtV shB M_Mo_says [vr 0, vi b] σ (fun σ' => fr rgW σ σ' ∧ σ' 0 42 = σ 0 42 + 1 ∧ ∀ k, σ' 23 k = if k = σ 0 42 then b else σ 23 k) := by
  refine Mt.of okM_Mo_says (Nat.le_of_ble_eq_true rfl) (fun hk hg => ?_)
  refine ok_aload_n 0 rfl rfl rfl (ok_getR 1 rfl rfl fl_X12_82 rfl rfl (ok_aload_n 2 rfl rfl rfl (ok_getI 3 rfl rfl fl_X12_357 rfl rfl (Or.inl rfl) (ok_iload_n 4 rfl rfl rfl (ok_iast 5 rfl rfl rfl (by first | omega | (simp [up_if]; omega) | (simp [up_if] at *; omega)) (ok_aload_n 6 rfl rfl rfl (ok_dup 7 rfl rfl rfl (ok_getI 8 rfl rfl fl_X12_357 rfl rfl (Or.inl rfl) (ok_iconst 9 rfl rfl (by decide) (ok_iadd 10 rfl rfl (by first | omega | (simp [up_if]; omega) | (simp [up_if] at *; omega)) (ok_putI 11 rfl rfl fl_X12_357 rfl rfl rfl rfl (ok_vret 12 rfl rfl rfl ?_))))))))))))
  refine ⟨rfl, fr_up (fr_up fr.rf (by simp [rgW])) (by simp [rgW]), by simp [up_if], fun k => ?_⟩
  rw [up_ne _ _ _ _ (by decide), up_if]
  by_cases q : k = σ 0 42
  · rw [if_pos ⟨rfl, q⟩, if_pos q]
  · rw [if_neg (fun y => q y.2), if_neg q]
theorem t_Mo_show {σ : eS} (h : iK σ) : MtI shB M_Mo_show [vr 0] σ (fun σ' z => fr rgW σ σ' ∧ (0 ≤ σ' 0 42 ∧ σ' 0 42 ≤ 1216) ∧ z = σ' 0 42 ∧ bfl (fun k => σ' 23 k) (σ' 0 42) (shL (wB σ) (kB σ) (σ 0 28) (σ 0 27).toNat)) := by
  refine Mt.of okM_Mo_show (Nat.le_of_ble_eq_true rfl) (fun hk hg => ?_)
  obtain ⟨k1, k2, k3, k4, k5, k6, -⟩ := id h
  refine ok_aload_n 0 rfl rfl rfl (ok_iconst 1 rfl rfl (by decide) (ok_putI 2 rfl rfl fl_X12_357 rfl rfl rfl rfl (ok_iconst 3 rfl rfl (by decide) (ok_ist1 4 rfl rfl rfl ?_))))
  refine lpO2 (fun (p : Int) (_ : eS) => [some (vr 0), some (vi p), none, none]) (fun _ ρ => ρ) (fun p ρ => 0 ≤ p ∧ p ≤ σ 0 27 ∧ fr rgW σ ρ ∧ (0 ≤ ρ 0 42 ∧ ρ 0 42 ≤ 19 * p) ∧ bfl (fun k => ρ 23 k) (ρ 0 42) (shL (wB σ) (kB σ) (σ 0 28) p.toNat)) (fun p _ => (64 - p).toNat) ?_ 0 _ ⟨by omega, by omega, fr_up fr.rf (by simp [rgW]), by simp [up_if], by simp [up_if, shL], fun k hk => by cases hk⟩
  rintro p ρ ⟨p1, p2, f, s1, hb⟩ ih
  have e27 : ρ 0 27 = σ 0 27 := f 0 27 (by simp only [rgW]; omega)
  refine ok_iload_n 5 rfl rfl rfl (ok_aload_n 6 rfl rfl rfl (ok_getI 7 rfl rfl fl_X12_273 rfl rfl (Or.inl rfl) (ok_icmp_ge 8 120 rfl rfl rfl (fun h12 => ?_) (fun h12 => ?_))))
  · refine ok_aload_n 71 rfl rfl rfl (ok_getI 72 rfl rfl fl_X12_357 rfl rfl (Or.inl rfl) (ok_iret 73 rfl rfl rfl ?_))
    exact ⟨_, rfl, f, ⟨s1.1, by omega⟩, rfl, by rw [show σ 0 27 = p by omega]; exact hb⟩
  · have plt : p < σ 0 27 := by omega
    obtain ⟨w1, w2⟩ := wt_le h p1 plt
    refine ok_iconst 9 rfl rfl (by decide) (ok_ist2 10 rfl rfl rfl ?_)
    have e12 : ρ 12 p = σ 12 p := f 12 p (by simp only [rgW]; omega)
    have wp : wB σ p = σ 12 p := rfl
    have eb := eN_bd (σ 12 p)
    refine lpO (fun e : Int => [some (vr 0), some (vi p), some (vi (tn e)), none]) (fun _ => ρ) (fun e => 0 ≤ e ∧ e ≤ 8 ∧ (e = 0 ∨ 9 < σ 12 p / tn (e - 1))) (fun e => (8 - e).toNat) ?_ 0 ⟨by omega, by omega, Or.inl rfl⟩
    rintro e ⟨e1, e2, e3⟩ ih2
    obtain ⟨t1, t2, t3⟩ := tn_s ⟨e1, e2⟩
    have dv := div_bd (u := ρ 12 p) (g := tn e) (B := 799999992) ⟨by omega, by omega⟩ t2
    refine ok_aload_n 11 rfl rfl rfl (ok_getR 12 rfl rfl fl_X12_48 rfl rfl (ok_iload_n 13 rfl rfl rfl (ok_iald 14 rfl rfl rfl (by first | omega | (simp [up_if]; omega) | (simp [up_if] at *; omega)) (ok_iload_n 15 rfl rfl rfl (ok_idiv 16 rfl rfl (by first | omega | (simp [up_if]; omega) | (simp [up_if] at *; omega)) (by first | omega | (simp [up_if]; omega) | (simp [up_if] at *; omega)) (ok_bipush 17 rfl rfl (by decide) (by decide) (ok_icmp_le 18 38 rfl rfl rfl (fun h27 => ?_) (fun h27 => ?_))))))))
    · clear ih2
      rw [e12] at h27
      have ee := eN_of (w := σ 12 p) ⟨by omega, by omega⟩ ⟨e1, e2⟩ (by omega) e3
      obtain ⟨L, eL⟩ : ∃ L, L = shL (wB σ) (kB σ) (σ 0 28) p.toNat ++ dgI (wB σ p) (eN (wB σ p) + 1).toNat := ⟨_, rfl⟩
      refine lpO2 (fun (e : Int) (_ : eS) => [some (vr 0), some (vi p), some (vi (tn e)), none]) (fun _ υ => υ) (fun e υ => -1 ≤ e ∧ e ≤ 8 ∧ fr rgW σ υ ∧ 0 ≤ υ 0 42 ∧ υ 0 42 + e ≤ 19 * p + 8 ∧ ∃ l', bfl (fun k => υ 23 k) (υ 0 42) l' ∧ l' ++ dgI (σ 12 p) (e + 1).toNat = L) (fun e _ => (e + 1).toNat) ?_ e ρ ⟨by omega, by omega, f, s1.1, by omega, _, hb, by rw [eL, wp, ee]⟩
      clear t1 t2 t3 dv h12 h27 e1 e2 e3 ee e e27 s1 f hb e12 ρ
      rintro e υ ⟨e1, e2, f, s1, s2, l', hb', hl'⟩ ih2
      have e12 : υ 12 p = σ 12 p := f 12 p (by simp only [rgW]; omega)
      refine ok_iload_n 24 rfl rfl rfl (ok_if_le 25 68 rfl rfl rfl (fun h39 => ?_) (fun h39 => ?_))
      · have e0 : e = -1 := by
          by_cases q : 0 ≤ e
          · have := (tn_s ⟨q, e2⟩).2.1; omega
          · omega
        have hbL : bfl (fun k => υ 23 k) (υ 0 42) L := by
          rw [← hl', e0]
          show bfl _ _ (l' ++ [])
          rw [List.append_nil]
          exact hb'
        refine ok_aload_n 43 rfl rfl rfl (ok_bipush 44 rfl rfl (by decide) (by decide) (ok_callVV (M' := M_Mo_says) (as := [_]) 45 rfl rfl ml_X12_360 (t_Mo_says ⟨s1, by omega⟩) rfl rfl (Nat.le_of_ble_eq_true rfl) ⟨Nat.le_of_ble_eq_true rfl, Nat.le_of_ble_eq_true rfl⟩ rfl (Nat.le_of_ble_eq_true rfl) (fun υ' hz => ?_)))
        obtain ⟨u1, u2, u3⟩ := hz
        have f' := f.tr u1
        have b2 := bfl_app hbL u3
        rw [← u2] at b2
        refine ok_iconst 46 rfl rfl (by decide) (ok_ist3 47 rfl rfl rfl ?_)
        refine lpO2 (fun (i : Int) (_ : eS) => [some (vr 0), some (vi p), some (vi (tn e)), some (vi i)]) (fun _ υ => υ) (fun i υ => 0 ≤ i ∧ i ≤ σ 0 28 ∧ fr rgW σ υ ∧ (0 ≤ υ 0 42 ∧ υ 0 42 ≤ 19 * p + 10 + i) ∧ bfl (fun k => υ 23 k) (υ 0 42) (L ++ [58] ++ coL (kB σ p) i.toNat)) (fun i _ => (8 - i).toNat) ?_ 0 υ' ⟨by omega, by omega, f', ⟨by omega, by omega⟩, by show bfl _ _ (L ++ [58] ++ []); rw [List.append_nil]; exact b2⟩
        clear e12 s1 s2 f f' hb' hl' hbL b2 u1 u2 u3 ih2
        rintro i υ ⟨i1, i2, f, s1, hb⟩ ih2
        have e28 : υ 0 28 = σ 0 28 := f 0 28 (by simp only [rgW]; omega)
        have e13 : ∀ k, υ 13 k = σ 13 k := fun k => f 13 k (by simp only [rgW]; omega)
        have kp : kB σ p i = σ 13 (8 * p + i) := rfl
        refine ok_iload_n 48 rfl rfl rfl (ok_aload_n 49 rfl rfl rfl (ok_getI 50 rfl rfl fl_X12_276 rfl rfl (Or.inl rfl) (ok_icmp_ge 51 108 rfl rfl rfl (fun h81 => ?_) (fun h81 => ?_))))
        · refine ok_aload_n 66 rfl rfl rfl (ok_bipush 67 rfl rfl (by decide) (by decide) (ok_callVV (M' := M_Mo_says) (as := [_]) 68 rfl rfl ml_X12_360 (t_Mo_says ⟨s1.1, by omega⟩) rfl rfl (Nat.le_of_ble_eq_true rfl) ⟨Nat.le_of_ble_eq_true rfl, Nat.le_of_ble_eq_true rfl⟩ rfl (Nat.le_of_ble_eq_true rfl) (fun υ'' hz => ?_)))
          refine ok_inc1 69 rfl rfl rfl (by first | omega | (simp [up_if]; omega) | (simp [up_if] at *; omega)) (ok_goto 70 7 rfl rfl rfl ?_)
          obtain ⟨u1, u2, u3⟩ := hz
          have b2 := bfl_app hb u3
          rw [← u2, show i = σ 0 28 by omega, eL, ← shL_s p1] at b2
          exact ok_fg [some (vr 0), some (vi (p + 1)), none, none] ⟨rfl, rfl, trivial⟩ (ih (p + 1) _ ⟨by omega, by omega, f.tr u1, ⟨by omega, by omega⟩, b2⟩ (by omega))
        · have hc := h.2.2.2.2.2.2.2.1 p i p1 (by omega) i1 (by omega)
          rw [← e13] at hc
          refine ok_aload_n 52 rfl rfl rfl (ok_bipush 53 rfl rfl (by decide) (by decide) (ok_aload_n 54 rfl rfl rfl (ok_getR 55 rfl rfl fl_X12_51 rfl rfl (ok_bipush 56 rfl rfl (by decide) (by decide) (ok_iload_n 57 rfl rfl rfl (ok_imul 58 rfl rfl (by first | omega | (simp [up_if]; omega) | (simp [up_if] at *; omega)) (ok_iload_n 59 rfl rfl rfl (ok_iadd 60 rfl rfl (by first | omega | (simp [up_if]; omega) | (simp [up_if] at *; omega)) (ok_iald 61 rfl rfl rfl (by first | omega | (simp [up_if]; omega) | (simp [up_if] at *; omega)) (ok_iadd 62 rfl rfl (by first | omega | (simp [up_if]; omega) | (simp [up_if] at *; omega)) (ok_callVV (M' := M_Mo_says) (as := [_]) 63 rfl rfl ml_X12_360 (t_Mo_says ⟨s1.1, by omega⟩) rfl rfl (Nat.le_of_ble_eq_true rfl) ⟨Nat.le_of_ble_eq_true rfl, Nat.le_of_ble_eq_true rfl⟩ rfl (Nat.le_of_ble_eq_true rfl) (fun υ'' hz => ?_))))))))))))
          refine ok_inc3 64 rfl rfl rfl (by first | omega | (simp [up_if]; omega) | (simp [up_if] at *; omega)) (ok_goto 65 76 rfl rfl rfl ?_)
          obtain ⟨u1, u2, u3⟩ := hz
          have b2 := bfl_app hb u3
          rw [← u2, e13, ← kp, List.append_assoc, ← coL_s i1] at b2
          exact ih2 (i + 1) _ ⟨by omega, by omega, f.tr u1, ⟨by omega, by omega⟩, b2⟩ (by omega)
      · have e0 : 0 ≤ e := tn_n (by omega)
        obtain ⟨t1, t2, t3⟩ := tn_s (e := e) ⟨e0, e2⟩
        have dv := div_bd (u := υ 12 p) (g := tn e) (B := 799999992) ⟨by omega, by omega⟩ t2
        refine ok_aload_n 26 rfl rfl rfl (ok_bipush 27 rfl rfl (by decide) (by decide) (ok_aload_n 28 rfl rfl rfl (ok_getR 29 rfl rfl fl_X12_48 rfl rfl (ok_iload_n 30 rfl rfl rfl (ok_iald 31 rfl rfl rfl (by first | omega | (simp [up_if]; omega) | (simp [up_if] at *; omega)) (ok_iload_n 32 rfl rfl rfl (ok_idiv 33 rfl rfl (by first | omega | (simp [up_if]; omega) | (simp [up_if] at *; omega)) (by first | omega | (simp [up_if]; omega) | (simp [up_if] at *; omega)) (ok_bipush 34 rfl rfl (by decide) (by decide) (ok_irem 35 rfl rfl (by first | omega | (simp [up_if]; omega) | (simp [up_if] at *; omega)) (by first | omega | (simp [up_if]; omega) | (simp [up_if] at *; omega)) (ok_iadd 36 rfl rfl (by first | omega | (simp [up_if]; omega) | (simp [up_if] at *; omega)) (ok_callVV (M' := M_Mo_says) (as := [_]) 37 rfl rfl ml_X12_360 (t_Mo_says ⟨s1, by omega⟩) rfl rfl (Nat.le_of_ble_eq_true rfl) ⟨Nat.le_of_ble_eq_true rfl, Nat.le_of_ble_eq_true rfl⟩ rfl (Nat.le_of_ble_eq_true rfl) (fun υ' hz => ?_))))))))))))
        obtain ⟨u1, u2, u3⟩ := hz
        refine ok_iload_n 38 rfl rfl rfl (ok_bipush 39 rfl rfl (by decide) (by decide) (ok_idiv 40 rfl rfl (by first | omega | (simp [up_if]; omega) | (simp [up_if] at *; omega)) (by first | omega | (simp [up_if]; omega) | (simp [up_if] at *; omega)) (ok_ist2 41 rfl rfl rfl (ok_goto 42 38 rfl rfl rfl ?_))))
        rw [tn_d ⟨e0, e2⟩]
        have b2 := bfl_app hb' u3
        rw [← u2, e12] at b2
        refine ih2 (e - 1) _ ⟨by omega, by omega, f.tr u1, by omega, by omega, _, b2, ?_⟩ (by omega)
        rw [← hl', dgI_s e0, show e - 1 + 1 = e by omega, List.append_assoc]
        rfl
    · have e8 : e ≠ 8 := by
        intro q
        rw [q, tn_8] at h27
        omega
      rw [e12] at h27
      refine ok_iload_n 19 rfl rfl rfl (ok_bipush 20 rfl rfl (by decide) (by decide) (ok_imul 21 rfl rfl (by first | omega | (simp [up_if]; omega) | (simp [up_if] at *; omega)) (ok_ist2 22 rfl rfl rfl (ok_goto 23 17 rfl rfl rfl ?_))))
      rw [t1]
      exact ih2 (e + 1) ⟨by omega, by omega, Or.inr (by rw [show e + 1 - 1 = e by omega]; omega)⟩ (by omega)
theorem t_Mo_out {σ : eS} {p : Int} (h : 0 ≤ σ 0 42 ∧ σ 0 42 ≤ 1400) : MtI shB M_Mo_out [vr 0, vi p] σ (fun σ' z => σ' = σ ∧ ouS (σ 0 42) (fun k => σ 23 k) p z) := by
  refine Mt.of okM_Mo_out (Nat.le_of_ble_eq_true rfl) (fun hk hg => ?_)
  refine ok_iload_n 0 rfl rfl rfl (ok_i2l 1 rfl rfl (ok_lconst (w := 0) 2 rfl rfl rfl (by decide) (ok_aload_n 3 rfl rfl rfl (ok_getI 4 rfl rfl fl_X12_357 rfl rfl (Or.inl rfl) (ok_iconst 5 rfl rfl (by decide) (ok_isub 6 rfl rfl (by first | omega | (simp [up_if]; omega) | (simp [up_if] at *; omega)) (ok_i2l 7 rfl rfl (ok_callSI (M' := M_Mo_isIn) (as := [_, _, _]) 8 rfl rfl ml_X12_99 (s_Mo_isIn_r) ⟨Nat.le_of_ble_eq_true rfl, Nat.le_of_ble_eq_true rfl⟩ rfl (Nat.le_of_ble_eq_true rfl) (fun σ' z hz => ?_)))))))))
  obtain ⟨hs_, hz⟩ := hz
  rw [hs_]; clear hs_ σ'
  refine ok_if_eq 9 25 rfl rfl rfl (fun h13 => ?_) (fun h13 => ?_)
  · refine ok_iconst 15 rfl rfl (by decide) (ok_iret 16 rfl rfl rfl ?_)
    refine ⟨_, rfl, rfl, ?_⟩
    first | exact Or.inl ⟨rfl, by omega⟩ | exact Or.inr ⟨by omega, rfl⟩
  · refine ok_aload_n 10 rfl rfl rfl (ok_getR 11 rfl rfl fl_X12_82 rfl rfl (ok_iload_n 12 rfl rfl rfl (ok_iald 13 rfl rfl rfl (by first | omega | (simp [up_if]; omega) | (simp [up_if] at *; omega)) (ok_goto 14 26 rfl rfl rfl (ok_iret 16 rfl rfl rfl ?_)))))
    refine ⟨_, rfl, rfl, ?_⟩
    first | exact Or.inl ⟨rfl, by omega⟩ | exact Or.inr ⟨by omega, rfl⟩
end
