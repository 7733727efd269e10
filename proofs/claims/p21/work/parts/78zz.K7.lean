/-! THE PARTS KEPT, asked: the same sums and scans on both sides -/
/-- how much of the whole has two columns at two rows -/
def twS (N : Int) (wt : Int → Int) (col : Int → Int → Int) (i j k l : Int) : Int := sm (fun p => if col p i = j ∧ col p k = l then wt p else 0) N.toNat
theorem twS_cg {N n i j k l : Int} {wt wt' : Int → Int} {col col' : Int → Int → Int} (h : ∀ q, 0 ≤ q → q < N → wt q = wt' q ∧ ∀ i, 0 ≤ i → i < n → col q i = col' q i) (hi : 0 ≤ i ∧ i < n) (hk : 0 ≤ k ∧ k < n) : twS N wt col i j k l = twS N wt' col' i j k l := by
  unfold twS
  refine sm_cg (fun p a b => ?_)
  obtain ⟨h1, h2⟩ := h p a (by omega)
  rw [h1, h2 i hi.1 hi.2, h2 k hk.1 hk.2]
def wA (σ : eS) : Int → Int := fun q => σ 23 q
def kA (σ : eS) : Int → Int → Int := fun q i => σ 24 (8 * q + i)
def wB (σ : eS) : Int → Int := fun q => σ 12 q
def kB (σ : eS) : Int → Int → Int := fun q i => σ 13 (8 * q + i)
theorem sm_nn {f : Int → Int} : ∀ {n : Nat}, (∀ k : Int, 0 ≤ k → k < n → 0 ≤ f k) → 0 ≤ sm f n
  | 0, _ => Int.le_refl _
  | n + 1, h => by
    have a := sm_nn (n := n) (fun k a b => h k a (by omega))
    have b := h n (by omega) (by omega)
    show 0 ≤ sm f n + f n
    omega
theorem twS_bd {N i j k l : Int} {wt : Int → Int} {col : Int → Int → Int} (h : ∀ q, 0 ≤ q → q < N → 0 ≤ wt q) : 0 ≤ twS N wt col i j k l ∧ twS N wt col i j k l ≤ sm wt N.toNat := by
  refine ⟨sm_nn (fun q a b => ?_), sm_le2 (fun q a b => ?_)⟩
  · try dsimp only
    have := h q a (by omega)
    split <;> omega
  · have := h q a (by omega)
    split <;> omega
theorem twS_s {N i j k l : Int} {wt : Int → Int} {col : Int → Int → Int} (hN : 0 ≤ N) : twS (N + 1) wt col i j k l = twS N wt col i j k l + (if col N i = j ∧ col N k = l then wt N else 0) := by
  unfold twS
  rw [sm_s _ hN]
theorem t_Mi_weightOfBoth {σ : eS} {r c r2 c2 : Int} (h : iMi σ) (hr : 0 ≤ r ∧ r < 8) (hr2 : 0 ≤ r2 ∧ r2 < 8) : MtI shA M_Mi_weightOfBoth [vr 22, vi r, vi c, vi r2, vi c2] σ (fun σ' z => σ' = σ ∧ z = twS (σ 22 5) (wA σ) (kA σ) r c r2 c2) := by
  refine Mt.of okM_Mi_weightOfBoth (Nat.le_of_ble_eq_true rfl) (fun hk hg => ?_)
  obtain ⟨⟨h1, h2, h3, h4, h5, h6, h7⟩, a, b, d⟩ := id h
  refine ok_iconst 0 rfl rfl (by decide) (ok_ist5 1 rfl rfl rfl (ok_iconst 2 rfl rfl (by decide) (ok_ist6 3 rfl rfl rfl ?_)))
  refine lpO2 (fun (v j : Int) => [some (vr 22), some (vi r), some (vi c), some (vi r2), some (vi c2), some (vi v), some (vi j)]) (fun _ _ => σ) (fun v j => 0 ≤ j ∧ j ≤ σ 22 5 ∧ v = twS j (wA σ) (kA σ) r c r2 c2) (fun _ j => (64 - j).toNat) ?_ 0 0 ⟨by omega, by omega, rfl⟩
  rintro v j ⟨j1, j2, v1⟩ ih
  refine ok_iload 4 rfl rfl rfl (ok_aload_n 5 rfl rfl rfl (ok_getI 6 rfl rfl fl_X3_28 rfl rfl (Or.inl rfl) (ok_icmp_ge 7 56 rfl rfl rfl (fun h12 => ?_) (fun h12 => ?_))))
  · refine ok_iload 29 rfl rfl rfl (ok_iret 30 rfl rfl rfl ?_)
    exact ⟨_, rfl, rfl, by rw [v1, show j = σ 22 5 by omega]⟩
  · have w := mi_bd h j1 (by omega)
    have tb := twS_bd (N := j) (wt := wA σ) (col := kA σ) (i := r) (j := c) (k := r2) (l := c2) (fun q x y => a q x (by omega))
    have ts := twS_s (N := j) (wt := wA σ) (col := kA σ) (i := r) (j := c) (k := r2) (l := c2) j1
    have wj : wA σ j = σ 23 j := rfl
    have sw : sm (wA σ) j.toNat = sm (fun k => σ 23 k) j.toNat := rfl
    have k1 : kA σ j r = σ 24 (j * 8 + r) := by unfold kA; congr 1; omega
    have k2 : kA σ j r2 = σ 24 (j * 8 + r2) := by unfold kA; congr 1; omega
    refine ok_aload_n 8 rfl rfl rfl (ok_iload 9 rfl rfl rfl (ok_iload_n 10 rfl rfl rfl (ok_callVI (M' := M_Mi_columnOf) (as := [_, _]) 11 rfl rfl ml_X3_46 (s_Mi_columnOf h ⟨by omega, by omega⟩ hr) rfl rfl (Nat.le_of_ble_eq_true rfl) ⟨Nat.le_of_ble_eq_true rfl, Nat.le_of_ble_eq_true rfl⟩ rfl (Nat.le_of_ble_eq_true rfl) (fun σ' z1 x1 => ?_))))
    obtain ⟨hs_, x1⟩ := x1
    rw [hs_]; clear hs_ σ'
    refine ok_iload_n 12 rfl rfl rfl (ok_icmp_ne 13 50 rfl rfl rfl (fun h23 => ?_) (fun h23 => ?_))
    · refine ok_inc6 27 rfl rfl rfl (by first | omega | (simp [up_if]; omega) | (simp [up_if] at *; omega)) (ok_goto 28 6 rfl rfl rfl ?_)
      refine ih _ (j + 1) ⟨by omega, by omega, ?_⟩ (by omega)
      rw [ts]
      first
        | (rw [if_neg (by omega)]; omega)
        | (rw [if_pos (by omega)]; omega)
    · refine ok_aload_n 14 rfl rfl rfl (ok_iload 15 rfl rfl rfl (ok_iload_n 16 rfl rfl rfl (ok_callVI (M' := M_Mi_columnOf) (as := [_, _]) 17 rfl rfl ml_X3_46 (s_Mi_columnOf h ⟨by omega, by omega⟩ hr2) rfl rfl (Nat.le_of_ble_eq_true rfl) ⟨Nat.le_of_ble_eq_true rfl, Nat.le_of_ble_eq_true rfl⟩ rfl (Nat.le_of_ble_eq_true rfl) (fun σ' z2 x2 => ?_))))
      obtain ⟨hs_, x2⟩ := x2
      rw [hs_]; clear hs_ σ'
      refine ok_iload 18 rfl rfl rfl (ok_icmp_ne 19 50 rfl rfl rfl (fun h35 => ?_) (fun h35 => ?_))
      · refine ok_inc6 27 rfl rfl rfl (by first | omega | (simp [up_if]; omega) | (simp [up_if] at *; omega)) (ok_goto 28 6 rfl rfl rfl ?_)
        refine ih _ (j + 1) ⟨by omega, by omega, ?_⟩ (by omega)
        rw [ts]
        first
          | (rw [if_neg (by omega)]; omega)
          | (rw [if_pos (by omega)]; omega)
      · refine ok_iload 20 rfl rfl rfl (ok_aload_n 21 rfl rfl rfl (ok_getR 22 rfl rfl fl_X3_9 rfl rfl (ok_iload 23 rfl rfl rfl (ok_iald 24 rfl rfl rfl (by first | omega | (simp [up_if]; omega) | (simp [up_if] at *; omega)) (ok_iadd 25 rfl rfl (by first | omega | (simp [up_if]; omega) | (simp [up_if] at *; omega)) (ok_ist5 26 rfl rfl rfl (ok_inc6 27 rfl rfl rfl (by first | omega | (simp [up_if]; omega) | (simp [up_if] at *; omega)) (ok_goto 28 6 rfl rfl rfl ?_))))))))
        refine ih _ (j + 1) ⟨by omega, by omega, ?_⟩ (by omega)
        rw [ts]
        first
          | (rw [if_neg (by omega)]; omega)
          | (rw [if_pos (by omega)]; omega)
theorem t_Mi_weightOf {σ : eS} {r c : Int} (h : iMi σ) (hr : 0 ≤ r ∧ r < 8) : MtI shA M_Mi_weightOf [vr 22, vi r, vi c] σ (fun σ' z => σ' = σ ∧ z = twS (σ 22 5) (wA σ) (kA σ) r c r c) := by
  refine Mt.of okM_Mi_weightOf (Nat.le_of_ble_eq_true rfl) (fun hk hg => ?_)
  refine ok_aload_n 0 rfl rfl rfl (ok_iload_n 1 rfl rfl rfl (ok_iload_n 2 rfl rfl rfl (ok_iload_n 3 rfl rfl rfl (ok_iload_n 4 rfl rfl rfl (ok_callVI (M' := M_Mi_weightOfBoth) (as := [_, _, _, _]) 5 rfl rfl ml_X3_50 (t_Mi_weightOfBoth h hr hr) rfl rfl (Nat.le_of_ble_eq_true rfl) ⟨Nat.le_of_ble_eq_true rfl, Nat.le_of_ble_eq_true rfl⟩ rfl (Nat.le_of_ble_eq_true rfl) (fun σ' z hz => ?_))))))
  obtain ⟨hs_, hz⟩ := hz
  rw [hs_]; clear hs_ σ'
  refine ok_iret 6 rfl rfl rfl ?_
  exact ⟨_, rfl, rfl, hz⟩
/-- a share in least terms -/
def ltS (m w b : Int) : Int := if b ≠ 0 then w / (Int.gcd m w : Int) else m / (Int.gcd m w : Int)
theorem t_Mi_inLeastTerms {σ : eS} {w b : Int} (h : iMi σ) (hw : 0 ≤ w ∧ w ≤ 799999992) : MtI shA M_Mi_inLeastTerms [vr 22, vi w, vi b] σ (fun σ' z => σ' = σ ∧ (1 ≤ σ 22 6 → z = ltS (σ 22 6) w b)) := by
  refine Mt.of okM_Mi_inLeastTerms (Nat.le_of_ble_eq_true rfl) (fun hk hg => ?_)
  obtain ⟨⟨h1, h2, h3, h4, h5, h6, h7⟩, a, b', c⟩ := h
  have gp : 1 ≤ σ 22 6 → 1 ≤ (Int.gcd (σ 22 6) w : Int) ∧ (Int.gcd (σ 22 6) w : Int) ≤ σ 22 6 := fun q => gcd_pos (by omega)
  have g0 : (0 : Int) ≤ (Int.gcd (σ 22 6) w : Int) := by omega
  have g1 : (Int.gcd (σ 22 6) w : Int) ≤ 799999992 := by
    by_cases q : 1 ≤ σ 22 6
    · have := gp q; omega
    · rw [show σ 22 6 = 0 by omega, Int.gcd_zero_left]; omega
  refine ok_aload_n 0 rfl rfl rfl (ok_getI 1 rfl rfl fl_X3_31 rfl rfl (Or.inl rfl) (ok_i2l 2 rfl rfl (ok_iload_n 3 rfl rfl rfl (ok_i2l 4 rfl rfl (ok_callSL (M' := M_Nu_greatestDivisor) (as := [_, _]) 5 rfl rfl ml_X3_40 (s_Nu_greatestDivisor h5 ⟨hw.1, by omega⟩) ⟨Nat.le_of_ble_eq_true rfl, Nat.le_of_ble_eq_true rfl⟩ rfl (Nat.le_of_ble_eq_true rfl) (fun σ' z hz => ?_))))))
  rw [hz.1, hz.2]
  clear hz z σ'
  refine ok_l2i 6 rfl rfl (by omega) (ok_ist3 7 rfl rfl rfl (ok_iload_n 8 rfl rfl rfl (ok_iconst 9 rfl rfl (by decide) (ok_icmp_ge 10 19 rfl rfl rfl (fun h14 => ?_) (fun h14 => ?_)))))
  · refine ok_iload_n 13 rfl rfl rfl (ok_if_eq 14 29 rfl rfl rfl (fun h20 => ?_) (fun h20 => ?_))
    · refine ok_aload_n 19 rfl rfl rfl (ok_getI 20 rfl rfl fl_X3_31 rfl rfl (Or.inl rfl) (ok_iload_n 21 rfl rfl rfl (ok_idiv 22 rfl rfl (by first | omega | (simp [up_if]; omega) | (simp [up_if] at *; omega)) (by first | omega | (simp [up_if]; omega) | (simp [up_if] at *; omega)) (ok_iret 23 rfl rfl rfl ?_))))
      refine ⟨_, rfl, rfl, fun q => ?_⟩
      have := gp q
      unfold ltS
      first | omega | (rw [if_pos (by omega)]) | (rw [if_neg (by omega)])
    · refine ok_iload_n 15 rfl rfl rfl (ok_iload_n 16 rfl rfl rfl (ok_idiv 17 rfl rfl (by first | omega | (simp [up_if]; omega) | (simp [up_if] at *; omega)) (by first | omega | (simp [up_if]; omega) | (simp [up_if] at *; omega)) (ok_goto 18 35 rfl rfl rfl (ok_iret 23 rfl rfl rfl ?_))))
      refine ⟨_, rfl, rfl, fun q => ?_⟩
      have := gp q
      unfold ltS
      first | omega | (rw [if_pos (by omega)]) | (rw [if_neg (by omega)])
  · refine ok_iconst 11 rfl rfl (by decide) (ok_iret 12 rfl rfl rfl ?_)
    refine ⟨_, rfl, rfl, fun q => ?_⟩
    have := gp q
    unfold ltS
    first | omega | (rw [if_pos (by omega)]) | (rw [if_neg (by omega)])
/-- the part that a number draws -/
def drS (N : Int) (wt : Int → Int) (r z : Int) : Prop := (z = -1 ∧ ¬ (0 ≤ r ∧ r < sm wt N.toNat)) ∨ ((0 ≤ z ∧ z < N) ∧ sm wt z.toNat ≤ r ∧ r < sm wt (z + 1).toNat)
theorem drS_un {N r z z' : Int} {wt wt' : Int → Int} (hw : ∀ q, 0 ≤ q → q < N → 0 ≤ wt q) (e : ∀ q, 0 ≤ q → q < N → wt q = wt' q) (h : drS N wt r z) (h' : drS N wt' r z') : z = z' := by
  have ec : ∀ x : Int, x ≤ N → sm wt x.toNat = sm wt' x.toNat := fun x hx => sm_cg (fun k a b => e k a (by omega))
  have mo : ∀ x y : Int, 0 ≤ x → x ≤ y → y ≤ N → sm wt x.toNat ≤ sm wt y.toNat := fun x y a b c => sm_mn (by omega) (fun k p q => hw k p (by omega))
  have z0 : 0 ≤ sm wt (0 : Int).toNat := Int.le_refl _
  rcases h with ⟨a1, a2⟩ | ⟨a1, a2, a3⟩ <;> rcases h' with ⟨b1, b2⟩ | ⟨b1, b2, b3⟩
  · omega
  · exfalso
    have x := mo (z' + 1) N (by omega) (by omega) (by omega)
    have y := mo 0 z' (by omega) (by omega) (by omega)
    rw [← ec z' (by omega)] at b2
    rw [← ec (z' + 1) (by omega)] at b3
    omega
  · exfalso
    have x := mo (z + 1) N (by omega) (by omega) (by omega)
    have y := mo 0 z (by omega) (by omega) (by omega)
    rw [← ec N (by omega)] at b2
    omega
  · rw [← ec z' (by omega)] at b2
    rw [← ec (z' + 1) (by omega)] at b3
    rcases (by omega : z < z' ∨ z = z' ∨ z' < z) with q | q | q
    · have := mo (z + 1) z' (by omega) (by omega) (by omega); omega
    · exact q
    · have := mo (z' + 1) z (by omega) (by omega) (by omega); omega
theorem t_Mi_partAt {σ : eS} {r : Int} (h : iMi σ) : MtI shA M_Mi_partAt [vr 22, vi r] σ (fun σ' z => σ' = σ ∧ drS (σ 22 5) (wA σ) r z) := by
  refine Mt.of okM_Mi_partAt (Nat.le_of_ble_eq_true rfl) (fun hk hg => ?_)
  obtain ⟨⟨h1, h2, h3, h4, h5, h6, h7⟩, a, b, c⟩ := id h
  refine ok_iload_n 0 rfl rfl rfl (ok_if_ge 1 6 rfl rfl rfl (fun h1 => ?_) (fun h1 => ?_))
  · refine ok_iload_n 4 rfl rfl rfl (ok_ist2 5 rfl rfl rfl (ok_iconst 6 rfl rfl (by decide) (ok_ist3 7 rfl rfl rfl ?_)))
    refine lpO2 (fun (v j : Int) => [some (vr 22), some (vi r), some (vi v), some (vi j)]) (fun _ _ => σ) (fun v j => 0 ≤ j ∧ j ≤ σ 22 5 ∧ 0 ≤ v ∧ v = r - sm (wA σ) j.toNat) (fun _ j => (64 - j).toNat) ?_ r 0 ⟨by omega, by omega, by omega, by show r = r - 0; omega⟩
    have hr : rg r := hk.2.1
    rintro v j ⟨j1, j2, v1, v2⟩ ih
    have sn : 0 ≤ sm (wA σ) j.toNat := sm_nn (fun q x y => a q x (by omega))
    refine ok_iload_n 8 rfl rfl rfl (ok_aload_n 9 rfl rfl rfl (ok_getI 10 rfl rfl fl_X3_28 rfl rfl (Or.inl rfl) (ok_icmp_ge 11 45 rfl rfl rfl (fun h15 => ?_) (fun h15 => ?_))))
    · refine ok_iconst 29 rfl rfl (by decide) (ok_iret 30 rfl rfl rfl ?_)
      exact ⟨_, rfl, rfl, Or.inl ⟨rfl, by rw [show σ 22 5 = j by omega]; omega⟩⟩
    · have w := mi_bd h j1 (by omega)
      have e := sm_s (wA σ) (j := j) j1
      have wj : wA σ j = σ 23 j := rfl
      refine ok_iload_n 12 rfl rfl rfl (ok_aload_n 13 rfl rfl rfl (ok_getR 14 rfl rfl fl_X3_9 rfl rfl (ok_iload_n 15 rfl rfl rfl (ok_iald 16 rfl rfl rfl (by first | omega | (simp [up_if]; omega) | (simp [up_if] at *; omega)) (ok_icmp_ge 17 30 rfl rfl rfl (fun h25 => ?_) (fun h25 => ?_))))))
      · refine ok_iload_n 20 rfl rfl rfl (ok_aload_n 21 rfl rfl rfl (ok_getR 22 rfl rfl fl_X3_9 rfl rfl (ok_iload_n 23 rfl rfl rfl (ok_iald 24 rfl rfl rfl (by first | omega | (simp [up_if]; omega) | (simp [up_if] at *; omega)) (ok_isub 25 rfl rfl (by first | omega | (simp [up_if]; omega) | (simp [up_if] at *; omega)) (ok_ist2 26 rfl rfl rfl (ok_inc3 27 rfl rfl rfl (by first | omega | (simp [up_if]; omega) | (simp [up_if] at *; omega)) (ok_goto 28 10 rfl rfl rfl ?_))))))))
        exact ih _ (j + 1) ⟨by omega, by omega, by omega, by omega⟩ (by omega)
      · refine ok_iload_n 18 rfl rfl rfl (ok_iret 19 rfl rfl rfl ?_)
        exact ⟨_, rfl, rfl, Or.inr ⟨⟨by omega, by omega⟩, by omega, by omega⟩⟩
  · refine ok_iconst 2 rfl rfl (by decide) (ok_iret 3 rfl rfl rfl ?_)
    exact ⟨_, rfl, rfl, Or.inl ⟨rfl, by omega⟩⟩
/-- the first of the greatest -/
def mxS (f : Int → Int) (n z : Int) : Prop := (0 ≤ z ∧ z < n) ∧ (∀ j, 0 ≤ j → j < n → f j ≤ f z) ∧ ∀ j, 0 ≤ j → j < z → f j < f z
theorem mxS_un {f g : Int → Int} {n z z' : Int} (e : ∀ j, 0 ≤ j → j < n → f j = g j) (h : mxS f n z) (h' : mxS g n z') : z = z' := by
  obtain ⟨a1, a2, a3⟩ := h
  obtain ⟨b1, b2, b3⟩ := h'
  rcases (by omega : z < z' ∨ z = z' ∨ z' < z) with q | q | q
  · have x := b3 z a1.1 q
    have y := a2 z' b1.1 b1.2
    rw [← e z a1.1 a1.2, ← e z' b1.1 b1.2] at x
    omega
  · exact q
  · have x := a3 z' b1.1 q
    have y := b2 z a1.1 a1.2
    rw [← e z a1.1 a1.2, ← e z' b1.1 b1.2] at y
    omega
theorem mxS_s {f : Int → Int} {n z : Int} (h : mxS f n z) (hn : 0 ≤ n) : (f z < f n → mxS f (n + 1) n) ∧ (f n ≤ f z → mxS f (n + 1) z) := by
  obtain ⟨a1, a2, a3⟩ := h
  refine ⟨fun q => ⟨⟨hn, by omega⟩, lt_ext (fun j x y => ?_) (Int.le_refl _), fun j x y => ?_⟩, fun q => ⟨⟨a1.1, by omega⟩, lt_ext a2 q, a3⟩⟩
  · have := a2 j x y; omega
  · have := a2 j x y; omega
theorem t_Mi_commonestColumn {σ : eS} {r : Int} (h : iMi σ) (hr : 0 ≤ r ∧ r < σ 22 4) : MtI shA M_Mi_commonestColumn [vr 22, vi r] σ (fun σ' z => σ' = σ ∧ mxS (fun c => twS (σ 22 5) (wA σ) (kA σ) r c r c) (σ 22 4) z) := by
  refine Mt.of okM_Mi_commonestColumn (Nat.le_of_ble_eq_true rfl) (fun hk hg => ?_)
  obtain ⟨⟨h1, h2, h3, h4, h5, h6, h7⟩, a, b, d⟩ := id h
  refine ok_iconst 0 rfl rfl (by decide) (ok_ist2 1 rfl rfl rfl (ok_iconst 2 rfl rfl (by decide) (ok_ist3 3 rfl rfl rfl ?_)))
  refine lpO2 (fun (v j : Int) => [some (vr 22), some (vi r), some (vi v), some (vi j)]) (fun _ _ => σ) (fun v j => 1 ≤ j ∧ j ≤ σ 22 4 ∧ mxS (fun c => twS (σ 22 5) (wA σ) (kA σ) r c r c) j v) (fun _ j => (9 - j).toNat) ?_ 0 1 ⟨by omega, by omega, ⟨by omega, by omega⟩, fun j x y => by rw [show j = 0 by omega]; exact Int.le_refl _, fun j x y => by omega⟩
  rintro v j ⟨j1, j2, v1⟩ ih
  have ms := mxS_s v1 (by omega)
  try dsimp only at ms
  refine ok_iload_n 4 rfl rfl rfl (ok_aload_n 5 rfl rfl rfl (ok_getI 6 rfl rfl fl_X3_25 rfl rfl (Or.inl rfl) (ok_icmp_ge 7 35 rfl rfl rfl (fun h9 => ?_) (fun h9 => ?_))))
  · refine ok_iload_n 21 rfl rfl rfl (ok_iret 22 rfl rfl rfl ?_)
    exact ⟨_, rfl, rfl, by rw [show σ 22 4 = j by omega]; exact v1⟩
  · refine ok_aload_n 8 rfl rfl rfl (ok_iload_n 9 rfl rfl rfl (ok_iload_n 10 rfl rfl rfl (ok_callVI (M' := M_Mi_weightOf) (as := [_, _]) 11 rfl rfl ml_X3_54 (t_Mi_weightOf h ⟨hr.1, by omega⟩) rfl rfl (Nat.le_of_ble_eq_true rfl) ⟨Nat.le_of_ble_eq_true rfl, Nat.le_of_ble_eq_true rfl⟩ rfl (Nat.le_of_ble_eq_true rfl) (fun σ' z1 x1 => ?_))))
    obtain ⟨hs_, x1⟩ := x1
    rw [hs_]; clear hs_ σ'
    refine ok_aload_n 12 rfl rfl rfl (ok_iload_n 13 rfl rfl rfl (ok_iload_n 14 rfl rfl rfl (ok_callVI (M' := M_Mi_weightOf) (as := [_, _]) 15 rfl rfl ml_X3_54 (t_Mi_weightOf h ⟨hr.1, by omega⟩) rfl rfl (Nat.le_of_ble_eq_true rfl) ⟨Nat.le_of_ble_eq_true rfl, Nat.le_of_ble_eq_true rfl⟩ rfl (Nat.le_of_ble_eq_true rfl) (fun σ' z2 x2 => ?_))))
    obtain ⟨hs_, x2⟩ := x2
    rw [hs_]; clear hs_ σ'
    refine ok_icmp_le 16 29 rfl rfl rfl (fun h24 => ?_) (fun h24 => ?_)
    · refine ok_inc3 19 rfl rfl rfl (by first | omega | (simp [up_if]; omega) | (simp [up_if] at *; omega)) (ok_goto 20 4 rfl rfl rfl ?_)
      refine ih _ (j + 1) ⟨by omega, by omega, ?_⟩ (by omega)
      first
        | exact ms.1 (by omega)
        | exact ms.2 (by omega)
    · refine ok_iload_n 17 rfl rfl rfl (ok_ist2 18 rfl rfl rfl (ok_inc3 19 rfl rfl rfl (by first | omega | (simp [up_if]; omega) | (simp [up_if] at *; omega)) (ok_goto 20 4 rfl rfl rfl ?_)))
      refine ih _ (j + 1) ⟨by omega, by omega, ?_⟩ (by omega)
      first
        | exact ms.1 (by omega)
        | exact ms.2 (by omega)
def seS (N : Int) (col : Int → Int → Int) (r s : Int) : Prop := (0 ≤ s ∧ s < 256) ∧ ∀ c : Int, 0 ≤ c → c < 8 → (bt s c = true ↔ ∃ p, 0 ≤ p ∧ p < N ∧ col p r = c)
theorem seS_s {N r s x : Int} {col : Int → Int → Int} (hN : 0 ≤ N) (h : seS N col r s) (hx : col N r = x) (hb : 0 ≤ x ∧ x ≤ 7) : seS (N + 1) col r (ior s (ishl 1 x)) := by
  have o := or8 h.1 (j := x) ⟨hb.1, by omega⟩
  refine ⟨o, fun c a b => ?_⟩
  rw [bitP h.1 ⟨hb.1, by omega⟩, bt_sB' hb.1 a, h.2 c a b]
  constructor
  · rintro (⟨p, p1, p2, p3⟩ | q)
    · exact ⟨p, p1, by omega, p3⟩
    · exact ⟨N, hN, by omega, by rw [hx]; exact q.symm⟩
  · rintro ⟨p, p1, p2, p3⟩
    by_cases q : p = N
    · right; rw [← hx, ← q]; exact p3.symm
    · exact Or.inl ⟨p, p1, by omega, p3⟩
theorem t_Mi_countColumns {σ : eS} {r : Int} (h : iMi σ) (hr : 0 ≤ r ∧ r < 8) : MtI shA M_Mi_countColumns [vr 22, vi r] σ (fun σ' z => σ' = σ ∧ ∃ s, seS (σ 22 5) (kA σ) r s ∧ z = pc s) := by
  refine Mt.of okM_Mi_countColumns (Nat.le_of_ble_eq_true rfl) (fun hk hg => ?_)
  obtain ⟨⟨h1, h2, h3, h4, h5, h6, h7⟩, a, b, d⟩ := id h
  refine ok_iconst 0 rfl rfl (by decide) (ok_ist2 1 rfl rfl rfl (ok_iconst 2 rfl rfl (by decide) (ok_ist3 3 rfl rfl rfl ?_)))
  refine lpO2 (fun (v j : Int) => [some (vr 22), some (vi r), some (vi v), some (vi j)]) (fun _ _ => σ) (fun v j => 0 ≤ j ∧ j ≤ σ 22 5 ∧ seS j (kA σ) r v) (fun _ j => (64 - j).toNat) ?_ 0 0 ⟨by omega, by omega, ⟨by omega, by omega⟩, fun c x y => by rw [bt_0]; constructor; intro q; cases q; rintro ⟨p, p1, p2, -⟩; omega⟩
  rintro v j ⟨j1, j2, v1⟩ ih
  refine ok_iload_n 4 rfl rfl rfl (ok_aload_n 5 rfl rfl rfl (ok_getI 6 rfl rfl fl_X3_28 rfl rfl (Or.inl rfl) (ok_icmp_ge 7 29 rfl rfl rfl (fun h9 => ?_) (fun h9 => ?_))))
  · refine ok_iload_n 19 rfl rfl rfl (ok_callSI (M' := M_Ji_bitCount) (as := [_]) 20 rfl rfl ml_X3_57 (s_Ji_bitCount) ⟨Nat.le_of_ble_eq_true rfl, Nat.le_of_ble_eq_true rfl⟩ rfl (Nat.le_of_ble_eq_true rfl) (fun σ' z hz => ?_))
    rw [hz.1, hz.2]
    clear hz z σ'
    refine ok_iret 21 rfl rfl rfl ?_
    exact ⟨_, rfl, rfl, _, by rw [show σ 22 5 = j by omega]; exact v1, bcP v1.1⟩
  · refine ok_iload_n 8 rfl rfl rfl (ok_iconst 9 rfl rfl (by decide) (ok_aload_n 10 rfl rfl rfl (ok_iload_n 11 rfl rfl rfl (ok_iload_n 12 rfl rfl rfl (ok_callVI (M' := M_Mi_columnOf) (as := [_, _]) 13 rfl rfl ml_X3_46 (s_Mi_columnOf h ⟨by omega, by omega⟩ hr) rfl rfl (Nat.le_of_ble_eq_true rfl) ⟨Nat.le_of_ble_eq_true rfl, Nat.le_of_ble_eq_true rfl⟩ rfl (Nat.le_of_ble_eq_true rfl) (fun σ' z1 x1 => ?_))))))
    obtain ⟨hs_, x1⟩ := x1
    rw [hs_]; clear hs_ σ'
    refine ok_ishl 14 rfl rfl (ok_ior 15 rfl rfl (ok_ist2 16 rfl rfl rfl (ok_inc3 17 rfl rfl rfl (by first | omega | (simp [up_if]; omega) | (simp [up_if] at *; omega)) (ok_goto 18 4 rfl rfl rfl ?_))))
    exact ih _ (j + 1) ⟨by omega, by omega, seS_s j1 v1 (by unfold kA; rw [x1.1]; congr 1; omega) x1.2⟩ (by omega)
theorem t_Mi_machineOf {σ : eS} {k r : Int} (h : iMi σ) (hkk : 0 ≤ k ∧ k < 64) (hr : 0 ≤ r ∧ r < 8) : MtI shA M_Mi_machineOf [vr 22, vi k, vi r] σ (fun σ' z => σ' = σ ∧ z = if kA σ k r < σ 22 3 then kA σ k r else -1) := by
  refine Mt.of okM_Mi_machineOf (Nat.le_of_ble_eq_true rfl) (fun hk hg => ?_)
  have e : kA σ k r = σ 24 (k * 8 + r) := by unfold kA; congr 1; omega
  refine ok_aload_n 0 rfl rfl rfl (ok_iload_n 1 rfl rfl rfl (ok_iload_n 2 rfl rfl rfl (ok_callVI (M' := M_Mi_columnOf) (as := [_, _]) 3 rfl rfl ml_X3_46 (s_Mi_columnOf h hkk hr) rfl rfl (Nat.le_of_ble_eq_true rfl) ⟨Nat.le_of_ble_eq_true rfl, Nat.le_of_ble_eq_true rfl⟩ rfl (Nat.le_of_ble_eq_true rfl) (fun σ' z hz => ?_))))
  obtain ⟨hs_, hz⟩ := hz
  rw [hs_]; clear hs_ σ'
  refine ok_ist3 4 rfl rfl rfl (ok_iload_n 5 rfl rfl rfl (ok_aload_n 6 rfl rfl rfl (ok_getI 7 rfl rfl fl_X3_22 rfl rfl (Or.inl rfl) (ok_icmp_ge 8 19 rfl rfl rfl (fun h12 => ?_) (fun h12 => ?_)))))
  · refine ok_iconst 11 rfl rfl (by decide) (ok_iret 12 rfl rfl rfl ?_)
    refine ⟨_, rfl, rfl, ?_⟩
    rw [e]
    first | (rw [if_pos (by omega)]; omega) | (rw [if_neg (by omega)])
  · refine ok_iload_n 9 rfl rfl rfl (ok_goto 10 20 rfl rfl rfl (ok_iret 12 rfl rfl rfl ?_))
    refine ⟨_, rfl, rfl, ?_⟩
    rw [e]
    first | (rw [if_pos (by omega)]; omega) | (rw [if_neg (by omega)])
/-- the answers -/
def prS (N n : Int) (col : Int → Int → Int) (k r z : Int) : Prop := z = @ite Int (0 ≤ k ∧ k < N ∧ 0 ≤ r ∧ r < n) (Classical.propDecidable _) (col k r) (-1)
theorem t_Ev_part {σ : eS} {k r : Int} (h : IA σ) : MtI shA M_Ev_part [vr 0, vi k, vi r] σ (fun σ' z => σ' = σ ∧ prS (σ 22 5) (σ 22 4) (kA σ) k r z) := by
  refine Mt.of okM_Ev_part (Nat.le_of_ble_eq_true rfl) (fun hk hg => ?_)
  have hm := h.2.2.2.1
  obtain ⟨⟨h1, h2, h3, h4, h5, h6, h7⟩, a, b, d⟩ := id hm
  have e : kA σ k r = σ 24 (k * 8 + r) := by unfold kA; congr 1; omega
  refine ok_aload_n 0 rfl rfl rfl (ok_getR 1 rfl rfl fl_X11_48 rfl rfl (ok_iload_n 2 rfl rfl rfl (ok_callVI (M' := M_Mi_hasPart) (as := [_]) 3 rfl rfl ml_X11_181 (s_Mi_hasPart) rfl rfl (Nat.le_of_ble_eq_true rfl) ⟨Nat.le_of_ble_eq_true rfl, Nat.le_of_ble_eq_true rfl⟩ rfl (Nat.le_of_ble_eq_true rfl) (fun σ' z1 x1 => ?_))))
  obtain ⟨hs_, x1⟩ := x1
  rw [hs_]; clear hs_ σ'
  refine ok_if_eq 4 34 rfl rfl rfl (fun h8 => ?_) (fun h8 => ?_)
  · refine ok_iconst 16 rfl rfl (by decide) (ok_iret 17 rfl rfl rfl ?_)
    refine ⟨_, rfl, rfl, ?_⟩
    unfold prS
    first | (rw [if_pos (by omega)]; omega) | (rw [if_neg (by omega)])
  · refine ok_aload_n 5 rfl rfl rfl (ok_getR 6 rfl rfl fl_X11_48 rfl rfl (ok_iload_n 7 rfl rfl rfl (ok_callVI (M' := M_Mi_hasRow) (as := [_]) 8 rfl rfl ml_X11_184 (s_Mi_hasRow) rfl rfl (Nat.le_of_ble_eq_true rfl) ⟨Nat.le_of_ble_eq_true rfl, Nat.le_of_ble_eq_true rfl⟩ rfl (Nat.le_of_ble_eq_true rfl) (fun σ' z2 x2 => ?_))))
    obtain ⟨hs_, x2⟩ := x2
    rw [hs_]; clear hs_ σ'
    refine ok_if_eq 9 34 rfl rfl rfl (fun h19 => ?_) (fun h19 => ?_)
    · refine ok_iconst 16 rfl rfl (by decide) (ok_iret 17 rfl rfl rfl ?_)
      refine ⟨_, rfl, rfl, ?_⟩
      unfold prS
      first | (rw [if_pos (by omega)]; omega) | (rw [if_neg (by omega)])
    · refine ok_aload_n 10 rfl rfl rfl (ok_getR 11 rfl rfl fl_X11_48 rfl rfl (ok_iload_n 12 rfl rfl rfl (ok_iload_n 13 rfl rfl rfl (ok_callVI (M' := M_Mi_columnOf) (as := [_, _]) 14 rfl rfl ml_X11_187 (s_Mi_columnOf hm ⟨by omega, by omega⟩ ⟨by omega, by omega⟩) rfl rfl (Nat.le_of_ble_eq_true rfl) ⟨Nat.le_of_ble_eq_true rfl, Nat.le_of_ble_eq_true rfl⟩ rfl (Nat.le_of_ble_eq_true rfl) (fun σ' z3 x3 => ?_)))))
      obtain ⟨hs_, x3⟩ := x3
      rw [hs_]; clear hs_ σ'
      refine ok_goto 15 35 rfl rfl rfl (ok_iret 17 rfl rfl rfl ?_)
      refine ⟨_, rfl, rfl, ?_⟩
      unfold prS
      first | (rw [if_pos (by omega)]; omega) | (rw [if_neg (by omega)])
def wtS (N m : Int) (wt : Int → Int) (k w z : Int) : Prop := z = @ite Int ((0 ≤ k ∧ k < N) ∧ 0 ≤ w ∧ w ≤ 2) (Classical.propDecidable _) (if w = 0 then wt k else if w = 1 then wt k / (Int.gcd m (wt k) : Int) else m / (Int.gcd m (wt k) : Int)) (-1)
theorem t_Ev_weight {σ : eS} {k w : Int} (h : IA σ) : MtI shA M_Ev_weight [vr 0, vi k, vi w] σ (fun σ' z => σ' = σ ∧ (1 ≤ σ 22 6 → wtS (σ 22 5) (σ 22 6) (wA σ) k w z) ∧ (σ 22 5 = 0 → z = -1)) := by
  refine Mt.of okM_Ev_weight (Nat.le_of_ble_eq_true rfl) (fun hk hg => ?_)
  have hm := h.2.2.2.1
  obtain ⟨⟨h1, h2, h3, h4, h5, h6, h7⟩, a, b, d⟩ := id hm
  have e : wA σ k = σ 23 k := rfl
  refine ok_aload_n 0 rfl rfl rfl (ok_getR 1 rfl rfl fl_X11_48 rfl rfl (ok_iload_n 2 rfl rfl rfl (ok_callVI (M' := M_Mi_hasPart) (as := [_]) 3 rfl rfl ml_X11_181 (s_Mi_hasPart) rfl rfl (Nat.le_of_ble_eq_true rfl) ⟨Nat.le_of_ble_eq_true rfl, Nat.le_of_ble_eq_true rfl⟩ rfl (Nat.le_of_ble_eq_true rfl) (fun σ' z1 x1 => ?_))))
  obtain ⟨hs_, x1⟩ := x1
  rw [hs_]; clear hs_ σ'
  refine ok_if_eq 4 20 rfl rfl rfl (fun h8 => ?_) (fun h8 => ?_)
  · refine ok_iconst 10 rfl rfl (by decide) (ok_iret 11 rfl rfl rfl ?_)
    exact ⟨_, rfl, rfl, fun _ => by unfold wtS; rw [if_neg (by omega)], fun _ => rfl⟩
  · refine ok_iload_n 5 rfl rfl rfl (ok_if_lt 6 20 rfl rfl rfl (fun h12 => ?_) (fun h12 => ?_))
    · refine ok_iconst 10 rfl rfl (by decide) (ok_iret 11 rfl rfl rfl ?_)
      exact ⟨_, rfl, rfl, fun _ => by unfold wtS; rw [if_neg (by omega)], fun _ => rfl⟩
    · refine ok_iload_n 7 rfl rfl rfl (ok_iconst 8 rfl rfl (by decide) (ok_icmp_le 9 22 rfl rfl rfl (fun h17 => ?_) (fun h17 => ?_)))
      · have w0 := mi_bd hm (k := k) (by omega) (by omega)
        refine ok_aload_n 12 rfl rfl rfl (ok_getR 13 rfl rfl fl_X11_48 rfl rfl (ok_getR 14 rfl rfl fl_X11_191 rfl rfl (ok_iload_n 15 rfl rfl rfl (ok_iald 16 rfl rfl rfl (by first | omega | (simp [up_if]; omega) | (simp [up_if] at *; omega)) (ok_ist3 17 rfl rfl rfl (ok_iload_n 18 rfl rfl rfl (ok_if_ne 19 40 rfl rfl rfl (fun h33 => ?_) (fun h33 => ?_))))))))
        · refine ok_aload_n 22 rfl rfl rfl (ok_getR 23 rfl rfl fl_X11_48 rfl rfl (ok_iload_n 24 rfl rfl rfl (ok_iload_n 25 rfl rfl rfl (ok_iconst 26 rfl rfl (by decide) (ok_icmp_ne 27 54 rfl rfl rfl (fun h47 => ?_) (fun h47 => ?_))))))
          · refine ok_iconst 30 rfl rfl (by decide) (ok_callVI (M' := M_Mi_inLeastTerms) (as := [_, _]) 31 rfl rfl ml_X11_194 (t_Mi_inLeastTerms hm ⟨by omega, by omega⟩) rfl rfl (Nat.le_of_ble_eq_true rfl) ⟨Nat.le_of_ble_eq_true rfl, Nat.le_of_ble_eq_true rfl⟩ rfl (Nat.le_of_ble_eq_true rfl) (fun σ' z3 x3 => ?_))
            obtain ⟨hs_, x3⟩ := x3
            rw [hs_]; clear hs_ σ'
            refine ok_iret 32 rfl rfl rfl ?_
            refine ⟨_, rfl, rfl, fun q => ?_, fun q => by omega⟩
            unfold wtS
            rw [if_pos (by omega)]
            first
              | rw [if_pos (by omega)]; rfl
              | (have y := x3 q; unfold ltS at y; first | rw [if_pos (show (1 : Int) ≠ 0 by decide)] at y | rw [if_neg (show ¬ ((0 : Int) ≠ 0) by decide)] at y
                 rw [y, if_neg (by omega)]; first | (rw [if_pos (by omega)]; done) | (rw [if_neg (by omega)]; done) | (rw [if_pos (by omega)]; rfl) | (rw [if_neg (by omega)]; rfl))
          · refine ok_iconst 28 rfl rfl (by decide) (ok_goto 29 55 rfl rfl rfl (ok_callVI (M' := M_Mi_inLeastTerms) (as := [_, _]) 31 rfl rfl ml_X11_194 (t_Mi_inLeastTerms hm ⟨by omega, by omega⟩) rfl rfl (Nat.le_of_ble_eq_true rfl) ⟨Nat.le_of_ble_eq_true rfl, Nat.le_of_ble_eq_true rfl⟩ rfl (Nat.le_of_ble_eq_true rfl) (fun σ' z3 x3 => ?_)))
            obtain ⟨hs_, x3⟩ := x3
            rw [hs_]; clear hs_ σ'
            refine ok_iret 32 rfl rfl rfl ?_
            refine ⟨_, rfl, rfl, fun q => ?_, fun q => by omega⟩
            unfold wtS
            rw [if_pos (by omega)]
            first
              | rw [if_pos (by omega)]; rfl
              | (have y := x3 q; unfold ltS at y; first | rw [if_pos (show (1 : Int) ≠ 0 by decide)] at y | rw [if_neg (show ¬ ((0 : Int) ≠ 0) by decide)] at y
                 rw [y, if_neg (by omega)]; first | (rw [if_pos (by omega)]; done) | (rw [if_neg (by omega)]; done) | (rw [if_pos (by omega)]; rfl) | (rw [if_neg (by omega)]; rfl))
        · refine ok_iload_n 20 rfl rfl rfl (ok_goto 21 58 rfl rfl rfl (ok_iret 32 rfl rfl rfl ?_))
          refine ⟨_, rfl, rfl, fun q => ?_, fun q => by omega⟩
          unfold wtS
          rw [if_pos (by omega)]
          first
            | rw [if_pos (by omega)]; rfl
            | (have y := x3 q; unfold ltS at y; first | rw [if_pos (show (1 : Int) ≠ 0 by decide)] at y | rw [if_neg (show ¬ ((0 : Int) ≠ 0) by decide)] at y
               rw [y, if_neg (by omega)]; first | (rw [if_pos (by omega)]; done) | (rw [if_neg (by omega)]; done) | (rw [if_pos (by omega)]; rfl) | (rw [if_neg (by omega)]; rfl))
      · refine ok_iconst 10 rfl rfl (by decide) (ok_iret 11 rfl rfl rfl ?_)
        exact ⟨_, rfl, rfl, fun _ => by unfold wtS; rw [if_neg (by omega)], fun _ => rfl⟩
theorem t_Ev_draw {σ : eS} {r : Int} (h : IA σ) : MtI shA M_Ev_draw [vr 0, vi r] σ (fun σ' z => σ' = σ ∧ drS (σ 22 5) (wA σ) r z) := by
  refine Mt.of okM_Ev_draw (Nat.le_of_ble_eq_true rfl) (fun hk hg => ?_)
  refine ok_aload_n 0 rfl rfl rfl (ok_getR 1 rfl rfl fl_X11_48 rfl rfl (ok_iload_n 2 rfl rfl rfl (ok_callVI (M' := M_Mi_partAt) (as := [_]) 3 rfl rfl ml_X11_198 (t_Mi_partAt h.2.2.2.1) rfl rfl (Nat.le_of_ble_eq_true rfl) ⟨Nat.le_of_ble_eq_true rfl, Nat.le_of_ble_eq_true rfl⟩ rfl (Nat.le_of_ble_eq_true rfl) (fun σ' z1 x1 => ?_))))
  obtain ⟨hs_, x1⟩ := x1
  rw [hs_]; clear hs_ σ'
  refine ok_iret 4 rfl rfl rfl ?_
  exact ⟨_, rfl, rfl, x1⟩
def okJ4 (n i j k l w : Int) : Prop := (0 ≤ i ∧ i < n) ∧ (0 ≤ j ∧ j < n) ∧ (0 ≤ k ∧ k < n) ∧ (0 ≤ l ∧ l < n) ∧ 0 ≤ w ∧ w ≤ 1
def jtS (N n m : Int) (wt : Int → Int) (col : Int → Int → Int) (i j k l w z : Int) : Prop := z = @ite Int (okJ4 n i j k l w) (Classical.propDecidable _) (if w = 0 then twS N wt col i j k l / (Int.gcd m (twS N wt col i j k l) : Int) else m / (Int.gcd m (twS N wt col i j k l) : Int)) (-1)
theorem t_Ev_joint {σ : eS} {i j k l w : Int} (h : IA σ) : MtI shA M_Ev_joint [vr 0, vi i, vi j, vi k, vi l, vi w] σ (fun σ' z => σ' = σ ∧ (1 ≤ σ 22 6 → jtS (σ 22 5) (σ 22 4) (σ 22 6) (wA σ) (kA σ) i j k l w z) ∧ (σ 22 4 = 0 → z = -1)) := by
  refine Mt.of okM_Ev_joint (Nat.le_of_ble_eq_true rfl) (fun hk hg => ?_)
  have hm := h.2.2.2.1
  obtain ⟨⟨h1, h2, h3, h4, h5, h6, h7⟩, a, b, d⟩ := id hm
  have tb := twS_bd (N := σ 22 5) (wt := wA σ) (col := kA σ) (i := i) (j := j) (k := k) (l := l) a
  have td : sm (wA σ) (σ 22 5).toNat ≤ σ 22 6 := d
  refine ok_aload_n 0 rfl rfl rfl (ok_getR 1 rfl rfl fl_X11_48 rfl rfl (ok_iload_n 2 rfl rfl rfl (ok_callVI (M' := M_Mi_hasRow) (as := [_]) 3 rfl rfl ml_X11_184 (s_Mi_hasRow) rfl rfl (Nat.le_of_ble_eq_true rfl) ⟨Nat.le_of_ble_eq_true rfl, Nat.le_of_ble_eq_true rfl⟩ rfl (Nat.le_of_ble_eq_true rfl) (fun σ' z1 x1 => ?_))))
  obtain ⟨hs_, x1⟩ := x1
  rw [hs_]; clear hs_ σ'
  refine ok_if_eq 4 45 rfl rfl rfl (fun h8 => ?_) (fun h8 => ?_)
  · refine ok_iconst 20 rfl rfl (by decide) (ok_iret 21 rfl rfl rfl ?_)
    exact ⟨_, rfl, rfl, fun _ => by unfold jtS okJ4; rw [if_neg (by omega)], fun _ => rfl⟩
  · refine ok_aload_n 5 rfl rfl rfl (ok_getR 6 rfl rfl fl_X11_48 rfl rfl (ok_iload_n 7 rfl rfl rfl (ok_callVI (M' := M_Mi_hasRow) (as := [_]) 8 rfl rfl ml_X11_184 (s_Mi_hasRow) rfl rfl (Nat.le_of_ble_eq_true rfl) ⟨Nat.le_of_ble_eq_true rfl, Nat.le_of_ble_eq_true rfl⟩ rfl (Nat.le_of_ble_eq_true rfl) (fun σ' z2 x2 => ?_))))
    obtain ⟨hs_, x2⟩ := x2
    rw [hs_]; clear hs_ σ'
    refine ok_if_eq 9 45 rfl rfl rfl (fun h19 => ?_) (fun h19 => ?_)
    · refine ok_iconst 20 rfl rfl (by decide) (ok_iret 21 rfl rfl rfl ?_)
      exact ⟨_, rfl, rfl, fun _ => by unfold jtS okJ4; rw [if_neg (by omega)], fun _ => rfl⟩
    · refine ok_aload_n 10 rfl rfl rfl (ok_getR 11 rfl rfl fl_X11_48 rfl rfl (ok_iload_n 12 rfl rfl rfl (ok_callVI (M' := M_Mi_hasRow) (as := [_]) 13 rfl rfl ml_X11_184 (s_Mi_hasRow) rfl rfl (Nat.le_of_ble_eq_true rfl) ⟨Nat.le_of_ble_eq_true rfl, Nat.le_of_ble_eq_true rfl⟩ rfl (Nat.le_of_ble_eq_true rfl) (fun σ' z3 x3 => ?_))))
      obtain ⟨hs_, x3⟩ := x3
      rw [hs_]; clear hs_ σ'
      refine ok_if_eq 14 45 rfl rfl rfl (fun h30 => ?_) (fun h30 => ?_)
      · refine ok_iconst 20 rfl rfl (by decide) (ok_iret 21 rfl rfl rfl ?_)
        exact ⟨_, rfl, rfl, fun _ => by unfold jtS okJ4; rw [if_neg (by omega)], fun _ => rfl⟩
      · refine ok_aload_n 15 rfl rfl rfl (ok_getR 16 rfl rfl fl_X11_48 rfl rfl (ok_iload 17 rfl rfl rfl (ok_callVI (M' := M_Mi_hasRow) (as := [_]) 18 rfl rfl ml_X11_184 (s_Mi_hasRow) rfl rfl (Nat.le_of_ble_eq_true rfl) ⟨Nat.le_of_ble_eq_true rfl, Nat.le_of_ble_eq_true rfl⟩ rfl (Nat.le_of_ble_eq_true rfl) (fun σ' z4 x4 => ?_))))
        obtain ⟨hs_, x4⟩ := x4
        rw [hs_]; clear hs_ σ'
        refine ok_if_ne 19 47 rfl rfl rfl (fun h42 => ?_) (fun h42 => ?_)
        · refine ok_iload 22 rfl rfl rfl (ok_if_lt 23 58 rfl rfl rfl (fun h49 => ?_) (fun h49 => ?_))
          · refine ok_iconst 27 rfl rfl (by decide) (ok_iret 28 rfl rfl rfl ?_)
            exact ⟨_, rfl, rfl, fun _ => by unfold jtS okJ4; rw [if_neg (by omega)], fun _ => rfl⟩
          · refine ok_iload 24 rfl rfl rfl (ok_iconst 25 rfl rfl (by decide) (ok_icmp_le 26 60 rfl rfl rfl (fun h55 => ?_) (fun h55 => ?_)))
            · refine ok_aload_n 29 rfl rfl rfl (ok_getR 30 rfl rfl fl_X11_48 rfl rfl (ok_aload_n 31 rfl rfl rfl (ok_getR 32 rfl rfl fl_X11_48 rfl rfl (ok_iload_n 33 rfl rfl rfl (ok_iload_n 34 rfl rfl rfl (ok_iload_n 35 rfl rfl rfl (ok_iload 36 rfl rfl rfl (ok_callVI (M' := M_Mi_weightOfBoth) (as := [_, _, _, _]) 37 rfl rfl ml_X11_201 (t_Mi_weightOfBoth hm ⟨by omega, by omega⟩ ⟨by omega, by omega⟩) rfl rfl (Nat.le_of_ble_eq_true rfl) ⟨Nat.le_of_ble_eq_true rfl, Nat.le_of_ble_eq_true rfl⟩ rfl (Nat.le_of_ble_eq_true rfl) (fun σ' z hz => ?_)))))))))
              rw [hz.1, hz.2]
              clear hz z σ'
              refine ok_iload 38 rfl rfl rfl (ok_if_ne 39 85 rfl rfl rfl (fun h78 => ?_) (fun h78 => ?_))
              · refine ok_iconst 42 rfl rfl (by decide) (ok_callVI (M' := M_Mi_inLeastTerms) (as := [_, _]) 43 rfl rfl ml_X11_194 (t_Mi_inLeastTerms hm ⟨by omega, by omega⟩) rfl rfl (Nat.le_of_ble_eq_true rfl) ⟨Nat.le_of_ble_eq_true rfl, Nat.le_of_ble_eq_true rfl⟩ rfl (Nat.le_of_ble_eq_true rfl) (fun σ' z6 x6 => ?_))
                obtain ⟨hs_, x6⟩ := x6
                rw [hs_]; clear hs_ σ'
                refine ok_iret 44 rfl rfl rfl ?_
                refine ⟨_, rfl, rfl, fun q => ?_, fun q => by omega⟩
                have y := x6 q
                unfold ltS at y
                first | rw [if_pos (show (1 : Int) ≠ 0 by decide)] at y | rw [if_neg (show ¬ ((0 : Int) ≠ 0) by decide)] at y
                unfold jtS okJ4
                rw [y, if_pos (by omega)]
                first | rw [if_pos (by omega)] | rw [if_neg (by omega)]
              · refine ok_iconst 40 rfl rfl (by decide) (ok_goto 41 86 rfl rfl rfl (ok_callVI (M' := M_Mi_inLeastTerms) (as := [_, _]) 43 rfl rfl ml_X11_194 (t_Mi_inLeastTerms hm ⟨by omega, by omega⟩) rfl rfl (Nat.le_of_ble_eq_true rfl) ⟨Nat.le_of_ble_eq_true rfl, Nat.le_of_ble_eq_true rfl⟩ rfl (Nat.le_of_ble_eq_true rfl) (fun σ' z6 x6 => ?_)))
                obtain ⟨hs_, x6⟩ := x6
                rw [hs_]; clear hs_ σ'
                refine ok_iret 44 rfl rfl rfl ?_
                refine ⟨_, rfl, rfl, fun q => ?_, fun q => by omega⟩
                have y := x6 q
                unfold ltS at y
                first | rw [if_pos (show (1 : Int) ≠ 0 by decide)] at y | rw [if_neg (show ¬ ((0 : Int) ≠ 0) by decide)] at y
                unfold jtS okJ4
                rw [y, if_pos (by omega)]
                first | rw [if_pos (by omega)] | rw [if_neg (by omega)]
            · refine ok_iconst 27 rfl rfl (by decide) (ok_iret 28 rfl rfl rfl ?_)
              exact ⟨_, rfl, rfl, fun _ => by unfold jtS okJ4; rw [if_neg (by omega)], fun _ => rfl⟩
        · refine ok_iconst 20 rfl rfl (by decide) (ok_iret 21 rfl rfl rfl ?_)
          exact ⟨_, rfl, rfl, fun _ => by unfold jtS okJ4; rw [if_neg (by omega)], fun _ => rfl⟩
def mtS (N n : Int) (wt : Int → Int) (col : Int → Int → Int) (r w z : Int) : Prop := (z = -1 ∧ ¬ ((0 ≤ r ∧ r < n) ∧ 0 ≤ w ∧ w ≤ 2)) ∨ (((0 ≤ r ∧ r < n) ∧ 0 ≤ w ∧ w ≤ 2) ∧ ((w = 2 ∧ ∃ s, seS N col r s ∧ z = pc s) ∨ (w ≠ 2 ∧ ∃ b, mxS (fun c => twS N wt col r c r c) n b ∧ z = if w = 0 then b else twS N wt col r b r b)))
theorem t_Ev_most {σ : eS} {r w : Int} (h : IA σ) : MtI shA M_Ev_most [vr 0, vi r, vi w] σ (fun σ' z => σ' = σ ∧ mtS (σ 22 5) (σ 22 4) (wA σ) (kA σ) r w z) := by
  refine Mt.of okM_Ev_most (Nat.le_of_ble_eq_true rfl) (fun hk hg => ?_)
  have hm := h.2.2.2.1
  obtain ⟨⟨h1, h2, h3, h4, h5, h6, h7⟩, a, b, d⟩ := id hm
  refine ok_aload_n 0 rfl rfl rfl (ok_getR 1 rfl rfl fl_X11_48 rfl rfl (ok_iload_n 2 rfl rfl rfl (ok_callVI (M' := M_Mi_hasRow) (as := [_]) 3 rfl rfl ml_X11_184 (s_Mi_hasRow) rfl rfl (Nat.le_of_ble_eq_true rfl) ⟨Nat.le_of_ble_eq_true rfl, Nat.le_of_ble_eq_true rfl⟩ rfl (Nat.le_of_ble_eq_true rfl) (fun σ' z1 x1 => ?_))))
  obtain ⟨hs_, x1⟩ := x1
  rw [hs_]; clear hs_ σ'
  refine ok_if_eq 4 20 rfl rfl rfl (fun h8 => ?_) (fun h8 => ?_)
  · refine ok_iconst 10 rfl rfl (by decide) (ok_iret 11 rfl rfl rfl ?_)
    exact ⟨_, rfl, rfl, Or.inl ⟨rfl, by omega⟩⟩
  · refine ok_iload_n 5 rfl rfl rfl (ok_if_lt 6 20 rfl rfl rfl (fun h12 => ?_) (fun h12 => ?_))
    · refine ok_iconst 10 rfl rfl (by decide) (ok_iret 11 rfl rfl rfl ?_)
      exact ⟨_, rfl, rfl, Or.inl ⟨rfl, by omega⟩⟩
    · refine ok_iload_n 7 rfl rfl rfl (ok_iconst 8 rfl rfl (by decide) (ok_icmp_le 9 22 rfl rfl rfl (fun h17 => ?_) (fun h17 => ?_)))
      · refine ok_iload_n 12 rfl rfl rfl (ok_iconst 13 rfl rfl (by decide) (ok_icmp_ne 14 36 rfl rfl rfl (fun h24 => ?_) (fun h24 => ?_)))
        · refine ok_aload_n 20 rfl rfl rfl (ok_getR 21 rfl rfl fl_X11_48 rfl rfl (ok_iload_n 22 rfl rfl rfl (ok_callVI (M' := M_Mi_commonestColumn) (as := [_]) 23 rfl rfl ml_X11_273 (t_Mi_commonestColumn hm ⟨by omega, by omega⟩) rfl rfl (Nat.le_of_ble_eq_true rfl) ⟨Nat.le_of_ble_eq_true rfl, Nat.le_of_ble_eq_true rfl⟩ rfl (Nat.le_of_ble_eq_true rfl) (fun σ' z3 x3 => ?_))))
          obtain ⟨hs_, x3⟩ := x3
          rw [hs_]; clear hs_ σ'
          refine ok_ist3 24 rfl rfl rfl (ok_iload_n 25 rfl rfl rfl (ok_if_ne 26 53 rfl rfl rfl (fun h46 => ?_) (fun h46 => ?_)))
          · refine ok_aload_n 29 rfl rfl rfl (ok_getR 30 rfl rfl fl_X11_48 rfl rfl (ok_iload_n 31 rfl rfl rfl (ok_iload_n 32 rfl rfl rfl (ok_callVI (M' := M_Mi_weightOf) (as := [_, _]) 33 rfl rfl ml_X11_276 (t_Mi_weightOf hm ⟨by omega, by omega⟩) rfl rfl (Nat.le_of_ble_eq_true rfl) ⟨Nat.le_of_ble_eq_true rfl, Nat.le_of_ble_eq_true rfl⟩ rfl (Nat.le_of_ble_eq_true rfl) (fun σ' z hz => ?_)))))
            rw [hz.1, hz.2]
            clear hz z σ'
            refine ok_iret 34 rfl rfl rfl ?_
            refine ⟨_, rfl, rfl, Or.inr ⟨by omega, Or.inr ⟨by omega, z3, x3, ?_⟩⟩⟩
            first | rw [if_pos (by omega)] | rw [if_neg (by omega)]
          · refine ok_iload_n 27 rfl rfl rfl (ok_goto 28 62 rfl rfl rfl (ok_iret 34 rfl rfl rfl ?_))
            refine ⟨_, rfl, rfl, Or.inr ⟨by omega, Or.inr ⟨by omega, z3, x3, ?_⟩⟩⟩
            first | rw [if_pos (by omega)] | rw [if_neg (by omega)]
        · refine ok_aload_n 15 rfl rfl rfl (ok_getR 16 rfl rfl fl_X11_48 rfl rfl (ok_iload_n 17 rfl rfl rfl (ok_callVI (M' := M_Mi_countColumns) (as := [_]) 18 rfl rfl ml_X11_270 (t_Mi_countColumns hm ⟨by omega, by omega⟩) rfl rfl (Nat.le_of_ble_eq_true rfl) ⟨Nat.le_of_ble_eq_true rfl, Nat.le_of_ble_eq_true rfl⟩ rfl (Nat.le_of_ble_eq_true rfl) (fun σ' z2 x2 => ?_))))
          obtain ⟨hs_, x2⟩ := x2
          rw [hs_]; clear hs_ σ'
          refine ok_iret 19 rfl rfl rfl ?_
          exact ⟨_, rfl, rfl, Or.inr ⟨by omega, Or.inl ⟨by omega, x2⟩⟩⟩
      · refine ok_iconst 10 rfl rfl (by decide) (ok_iret 11 rfl rfl rfl ?_)
        exact ⟨_, rfl, rfl, Or.inl ⟨rfl, by omega⟩⟩
def wkS (N n : Int) (wt : Int → Int) (col : Int → Int → Int) (J : Prop) (j t z : Int) : Prop := (z = -1 ∧ ¬ J) ∨ (J ∧ ∃ p, drS N wt t p ∧ ((p = -1 ∧ z = -1) ∨ (0 ≤ p ∧ z = if col p j < n then col p j else -1)))
theorem t_Ev_works {σ : eS} {j t : Int} (h : IA σ) : MtI shA M_Ev_works [vr 0, vi j, vi t] σ (fun σ' z => σ' = σ ∧ wkS (σ 22 5) (σ 22 3) (wA σ) (kA σ) (σ 22 2 = 2 ∧ 0 ≤ j ∧ j < σ 22 3) j t z) := by
  refine Mt.of okM_Ev_works (Nat.le_of_ble_eq_true rfl) (fun hk hg => ?_)
  have hm := h.2.2.2.1
  obtain ⟨⟨h1, h2, h3, h4, h5, h6, h7⟩, a, b, d⟩ := id hm
  refine ok_aload_n 0 rfl rfl rfl (ok_getR 1 rfl rfl fl_X11_48 rfl rfl (ok_iload_n 2 rfl rfl rfl (ok_callVI (M' := M_Mi_hasJob) (as := [_]) 3 rfl rfl ml_X11_300 (s_Mi_hasJob) rfl rfl (Nat.le_of_ble_eq_true rfl) ⟨Nat.le_of_ble_eq_true rfl, Nat.le_of_ble_eq_true rfl⟩ rfl (Nat.le_of_ble_eq_true rfl) (fun σ' z1 x1 => ?_))))
  obtain ⟨hs_, x1⟩ := x1
  rw [hs_]; clear hs_ σ'
  refine ok_if_ne 4 13 rfl rfl rfl (fun h8 => ?_) (fun h8 => ?_)
  · refine ok_aload_n 7 rfl rfl rfl (ok_getR 8 rfl rfl fl_X11_48 rfl rfl (ok_iload_n 9 rfl rfl rfl (ok_callVI (M' := M_Mi_partAt) (as := [_]) 10 rfl rfl ml_X11_198 (t_Mi_partAt hm) rfl rfl (Nat.le_of_ble_eq_true rfl) ⟨Nat.le_of_ble_eq_true rfl, Nat.le_of_ble_eq_true rfl⟩ rfl (Nat.le_of_ble_eq_true rfl) (fun σ' z2 x2 => ?_))))
    obtain ⟨hs_, x2⟩ := x2
    rw [hs_]; clear hs_ σ'
    have x3 : z2 = -1 ∨ (0 ≤ z2 ∧ z2 < σ 22 5) := by
      rcases id x2 with ⟨q, -⟩ | ⟨q, -⟩
      · exact Or.inl q
      · exact Or.inr q
    refine ok_ist3 11 rfl rfl rfl (ok_iload_n 12 rfl rfl rfl (ok_iconst 13 rfl rfl (by decide) (ok_icmp_ne 14 31 rfl rfl rfl (fun h24 => ?_) (fun h24 => ?_))))
    · refine ok_aload_n 17 rfl rfl rfl (ok_getR 18 rfl rfl fl_X11_48 rfl rfl (ok_iload_n 19 rfl rfl rfl (ok_iload_n 20 rfl rfl rfl (ok_callVI (M' := M_Mi_machineOf) (as := [_, _]) 21 rfl rfl ml_X11_303 (t_Mi_machineOf hm ⟨by omega, by omega⟩ ⟨by omega, by omega⟩) rfl rfl (Nat.le_of_ble_eq_true rfl) ⟨Nat.le_of_ble_eq_true rfl, Nat.le_of_ble_eq_true rfl⟩ rfl (Nat.le_of_ble_eq_true rfl) (fun σ' z3 x4 => ?_)))))
      obtain ⟨hs_, x4⟩ := x4
      rw [hs_]; clear hs_ σ'
      refine ok_iret 22 rfl rfl rfl ?_
      refine ⟨_, rfl, rfl, Or.inr ⟨by omega, z2, x2, ?_⟩⟩
      first | exact Or.inl ⟨by omega, rfl⟩ | exact Or.inr ⟨by omega, x4⟩
    · refine ok_iconst 15 rfl rfl (by decide) (ok_goto 16 40 rfl rfl rfl (ok_iret 22 rfl rfl rfl ?_))
      refine ⟨_, rfl, rfl, Or.inr ⟨by omega, z2, x2, ?_⟩⟩
      first | exact Or.inl ⟨by omega, rfl⟩ | exact Or.inr ⟨by omega, x4⟩
  · refine ok_iconst 5 rfl rfl (by decide) (ok_iret 6 rfl rfl rfl ?_)
    exact ⟨_, rfl, rfl, Or.inl ⟨rfl, by omega⟩⟩
theorem t_Ev_kept {σ : eS} {w : Int} : MtI shA M_Ev_kept [vr 0, vi w] σ (fun σ' z => σ' = σ ∧ z = if w = 0 then σ 22 2 else if w = 1 then σ 22 5 else if w = 2 then σ 22 6 else if w = 3 then σ 22 3 else if w = 4 then σ 10 3 else -1) := by
  refine Mt.of okM_Ev_kept (Nat.le_of_ble_eq_true rfl) (fun hk hg => ?_)
  refine ok_iload_n 0 rfl rfl rfl ?_
  rcases (by omega : w = 0 ∨ w = 1 ∨ w = 2 ∨ w = 3 ∨ w = 4 ∨ (w < 0 ∨ 4 < w)) with q_ | q_ | q_ | q_ | q_ | q_
  · subst q_
    refine ok_tin 1 (len := 35) 36 rfl rfl (by decide) (by decide) rfl rfl ?_
    refine ok_aload_n 2 rfl rfl rfl (ok_getR 3 rfl rfl fl_X11_48 rfl rfl (ok_getI 4 rfl rfl fl_X11_315 rfl rfl (Or.inl rfl) (ok_iret 5 rfl rfl rfl ?_)))
    refine ⟨_, rfl, rfl, ?_⟩
    first
      | rfl
      | (rw [if_neg (by omega), if_neg (by omega), if_neg (by omega), if_neg (by omega), if_neg (by omega)])
  · subst q_
    refine ok_tin 1 (len := 35) 44 rfl rfl (by decide) (by decide) rfl rfl ?_
    refine ok_aload_n 6 rfl rfl rfl (ok_getR 7 rfl rfl fl_X11_48 rfl rfl (ok_getI 8 rfl rfl fl_X11_318 rfl rfl (Or.inl rfl) (ok_iret 9 rfl rfl rfl ?_)))
    refine ⟨_, rfl, rfl, ?_⟩
    first
      | rfl
      | (rw [if_neg (by omega), if_neg (by omega), if_neg (by omega), if_neg (by omega), if_neg (by omega)])
  · subst q_
    refine ok_tin 1 (len := 35) 52 rfl rfl (by decide) (by decide) rfl rfl ?_
    refine ok_aload_n 10 rfl rfl rfl (ok_getR 11 rfl rfl fl_X11_48 rfl rfl (ok_getI 12 rfl rfl fl_X11_321 rfl rfl (Or.inl rfl) (ok_iret 13 rfl rfl rfl ?_)))
    refine ⟨_, rfl, rfl, ?_⟩
    first
      | rfl
      | (rw [if_neg (by omega), if_neg (by omega), if_neg (by omega), if_neg (by omega), if_neg (by omega)])
  · subst q_
    refine ok_tin 1 (len := 35) 60 rfl rfl (by decide) (by decide) rfl rfl ?_
    refine ok_aload_n 14 rfl rfl rfl (ok_getR 15 rfl rfl fl_X11_48 rfl rfl (ok_getI 16 rfl rfl fl_X11_324 rfl rfl (Or.inl rfl) (ok_iret 17 rfl rfl rfl ?_)))
    refine ⟨_, rfl, rfl, ?_⟩
    first
      | rfl
      | (rw [if_neg (by omega), if_neg (by omega), if_neg (by omega), if_neg (by omega), if_neg (by omega)])
  · subst q_
    refine ok_tin 1 (len := 35) 68 rfl rfl (by decide) (by decide) rfl rfl ?_
    refine ok_aload_n 18 rfl rfl rfl (ok_getR 19 rfl rfl fl_X11_18 rfl rfl (ok_getI 20 rfl rfl fl_X11_82 rfl rfl (Or.inl rfl) (ok_iret 21 rfl rfl rfl ?_)))
    refine ⟨_, rfl, rfl, ?_⟩
    first
      | rfl
      | (rw [if_neg (by omega), if_neg (by omega), if_neg (by omega), if_neg (by omega), if_neg (by omega)])
  · refine ok_tout 1 (len := 35) 76 rfl rfl q_ rfl ?_
    refine ok_iconst 22 rfl rfl (by decide) (ok_iret 23 rfl rfl rfl ?_)
    refine ⟨_, rfl, rfl, ?_⟩
    first
      | rfl
      | (rw [if_neg (by omega), if_neg (by omega), if_neg (by omega), if_neg (by omega), if_neg (by omega)])
