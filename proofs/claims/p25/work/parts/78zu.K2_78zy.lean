section
/-! PARTS, the class -/
def pk (σ : eS) (q : Nat) (i j : Int) : Int := σ q (i * 8 + j)
theorem lb_FC : ∀ i : Fin 64, lb 72340172838076673 i.val = decide (i.val % 8 = 0) := by decide +kernel
theorem lb_m1 : ∀ i : Fin 64, lb (-1) i.val = true := by decide +kernel
theorem jb_row {r x y : Int} (hr : 0 ≤ r ∧ r < 8) (hx : 0 ≤ x ∧ x < 8) (hy : 0 ≤ y ∧ y < 8) : jb (lshl 255 (r * 8)) x y = decide (x = r) := by
  unfold jb
  obtain ⟨m, hm⟩ : ∃ m : Nat, r * 8 = (m : Int) := ⟨(r * 8).toNat, by omega⟩
  have hk : (x * 8 + y).toNat < 64 := by omega
  rw [hm, lb_shl 255 (by omega) hk, lb_255 ⟨(x * 8 + y).toNat - m, by omega⟩]
  by_cases q : x = r
  · rw [decide_eq_true q, decide_eq_true (by omega), decide_eq_true (by (try dsimp only); omega)]; rfl
  · rw [decide_eq_false q]
    by_cases w : m ≤ (x * 8 + y).toNat
    · rw [decide_eq_true w, decide_eq_false (by (try dsimp only); omega)]; rfl
    · rw [decide_eq_false w, Bool.false_and]
theorem jb_col {c x y : Int} (hc : 0 ≤ c ∧ c < 8) (hx : 0 ≤ x ∧ x < 8) (hy : 0 ≤ y ∧ y < 8) : jb (lshl 72340172838076673 c) x y = decide (y = c) := by
  unfold jb
  obtain ⟨m, hm⟩ : ∃ m : Nat, c = (m : Int) := ⟨c.toNat, by omega⟩
  have hk : (x * 8 + y).toNat < 64 := by omega
  rw [hm, lb_shl _ (by omega) hk, lb_FC ⟨(x * 8 + y).toNat - m, by omega⟩]
  by_cases q : y = (m : Int)
  · rw [decide_eq_true q, decide_eq_true (by omega), decide_eq_true (by (try dsimp only); omega)]; rfl
  · rw [decide_eq_false q]
    by_cases w : m ≤ (x * 8 + y).toNat
    · rw [decide_eq_true w, decide_eq_false (by (try dsimp only); omega)]; rfl
    · rw [decide_eq_false w, Bool.false_and]
theorem t_Jo_through {σ : eS} {J r c n : Int} {op : Int → Int → Prop} (hn : n ≤ 8) (hr : 0 ≤ r ∧ r < n) (hc : 0 ≤ c ∧ c < n) (hJ : jOf J n op) (ho : op r c) : MtL shA M_Jo_through [vl J, vi r, vi c] σ (fun σ' z => σ' = σ ∧ jOf z n (fun i j => op i j ∧ (i = r ↔ j = c))) := by
  refine Mt.of okM_Jo_through (Nat.le_of_ble_eq_true rfl) (fun hk hg => ?_)
  refine ok_ldc2 0 (255) rfl rfl kc_X1_11 (by decide) (ok_iload_n 1 rfl rfl rfl (ok_bipush 2 rfl rfl (by decide) (by decide) (ok_imul 3 rfl rfl (by first | omega | (simp [up_if]; omega) | (simp [up_if] at *; omega)) (ok_lshl 4 rfl rfl (ok_ldc2 5 (72340172838076673) rfl rfl kc_X1_13 (by decide) (ok_iload_n 6 rfl rfl rfl (ok_lshl 7 rfl rfl (ok_lor 8 rfl rfl (ok_lst4 9 rfl rfl rfl (ok_lload_n 10 rfl rfl rfl (ok_lload 11 rfl rfl rfl (ok_ldc2 12 (-1) rfl rfl kc_X1_15 (by decide) (ok_lxor 13 rfl rfl (ok_land 14 rfl rfl (ok_lconst (w := 1) 15 rfl rfl rfl (by decide) (ok_iload_n 16 rfl rfl rfl (ok_bipush 17 rfl rfl (by decide) (by decide) (ok_imul 18 rfl rfl (by first | omega | (simp [up_if]; omega) | (simp [up_if] at *; omega)) (ok_iload_n 19 rfl rfl rfl (ok_iadd 20 rfl rfl (by first | omega | (simp [up_if]; omega) | (simp [up_if] at *; omega)) (ok_lshl 21 rfl rfl (ok_lor 22 rfl rfl (ok_lret 23 rfl rfl rfl ?_)))))))))))))))))))))))
  refine ⟨_, rfl, rfl, rl_lor _ _, fun x y a b d e => ?_⟩
  rw [jb_set ⟨hr.1, by omega⟩ ⟨hc.1, by omega⟩ ⟨a, b⟩ ⟨d, e⟩, Bool.or_eq_true, decide_eq_true_eq]
  have e1 : jb (land J (lxor (lor (lshl 255 (r * 8)) (lshl 72340172838076673 c)) (-1))) x y = (jb J x y && !(decide (x = r) || decide (y = c))) := by
    rw [← jb_row (r := r) (x := x) (y := y) ⟨hr.1, by omega⟩ ⟨a, b⟩ ⟨d, e⟩, ← jb_col (c := c) (x := x) (y := y) ⟨hc.1, by omega⟩ ⟨a, b⟩ ⟨d, e⟩]
    unfold jb
    rw [lb_and, lb_xor, lb_or, lb_m1 ⟨(x * 8 + y).toNat, by omega⟩, Bool.xor_true]
  rw [e1, Bool.and_eq_true, Bool.not_eq_true', Bool.or_eq_false_iff, decide_eq_false_iff_not, decide_eq_false_iff_not, hJ.2 x y a b d e]
  constructor
  · rintro (⟨⟨q1, q2, q3⟩, q4, q5⟩ | ⟨q1, q2⟩)
    · exact ⟨q1, q2, q3, ⟨fun w => absurd w q4, fun w => absurd w q5⟩⟩
    · subst q1
      subst q2
      exact ⟨hr.2, hc.2, ho, ⟨fun _ => rfl, fun _ => rfl⟩⟩
  · rintro ⟨q1, q2, q3, q4⟩
    by_cases w : x = r
    · exact Or.inr ⟨w, q4.mp w⟩
    · exact Or.inl ⟨⟨q1, q2, q3⟩, w, fun v => w (q4.mpr v)⟩
/-- the scan for the least cell, up to row i and column j -/
def lPs (n m : Int) (W : Int → Int → Int) (i j v l : Int) : Prop := (l = m + 1 ∧ ∀ x y, 0 ≤ x → x < n → 0 ≤ y → y < n → (x < i ∨ (x = i ∧ y < j)) → W x y ≤ 0) ∨ ((0 ≤ v ∧ v / 8 < n ∧ v % 8 < n) ∧ (v / 8 < i ∨ (v / 8 = i ∧ v % 8 < j)) ∧ l = W (v / 8) (v % 8) ∧ 1 ≤ l ∧ l ≤ m ∧ ∀ x y, 0 ≤ x → x < n → 0 ≤ y → y < n → (x < i ∨ (x = i ∧ y < j)) → 1 ≤ W x y → l < W x y ∨ (l = W x y ∧ (v / 8 < x ∨ (v / 8 = x ∧ v % 8 ≤ y))))
theorem lPs_new {n m i j v l : Int} {W : Int → Int → Int} (hn : n ≤ 8) (hi : 0 ≤ i ∧ i < n) (hj : 0 ≤ j ∧ j < n) (h : lPs n m W i j v l) (h1 : 0 < W i j) (h2 : W i j < l) : lPs n m W i (j + 1) (i * 8 + j) (W i j) := by
  have e1 : (i * 8 + j) / 8 = i := by omega
  have e2 : (i * 8 + j) % 8 = j := by omega
  refine Or.inr ⟨?_, ?_, ?_, by omega, ?_, ?_⟩
  · rw [e1, e2]; omega
  · rw [e1, e2]; omega
  · rw [e1, e2]
  · rcases h with ⟨q, -⟩ | ⟨-, -, -, -, q, -⟩ <;> omega
  · intro x y a b c d s p
    rw [e1, e2]
    by_cases z : x = i ∧ y = j
    · rw [z.1, z.2]; exact Or.inr ⟨rfl, Or.inr ⟨rfl, Int.le_refl _⟩⟩
    · have s' : x < i ∨ (x = i ∧ y < j) := by omega
      rcases h with ⟨-, q⟩ | ⟨-, -, -, -, -, q⟩
      · have := q x y a b c d s'; omega
      · have := q x y a b c d s' p; left; omega
theorem lPs_old {n m i j v l : Int} {W : Int → Int → Int} (h : lPs n m W i j v l) (hi : 0 ≤ i ∧ i < n) (hj : 0 ≤ j ∧ j < n) (hb : W i j ≤ m) (h1 : W i j ≤ 0 ∨ l ≤ W i j) : lPs n m W i (j + 1) v l := by
  rcases h with ⟨q1, q2⟩ | ⟨q1, q2, q3, q4, q5, q6⟩
  · refine Or.inl ⟨q1, fun x y a b c d s => ?_⟩
    by_cases z : x = i ∧ y = j
    · rw [z.1, z.2]; omega
    · exact q2 x y a b c d (by omega)
  · refine Or.inr ⟨q1, by omega, q3, q4, q5, fun x y a b c d s p => ?_⟩
    by_cases z : x = i ∧ y = j
    · obtain ⟨z1, z2⟩ := z
      subst z1
      subst z2
      omega
    · exact q6 x y a b c d (by omega) p
theorem lPs_row {n m i v l : Int} {W : Int → Int → Int} (h : lPs n m W i n v l) : lPs n m W (i + 1) 0 v l := by
  rcases h with ⟨q1, q2⟩ | ⟨q1, q2, q3, q4, q5, q6⟩
  · exact Or.inl ⟨q1, fun x y a b c d s => q2 x y a b c d (by omega)⟩
  · exact Or.inr ⟨q1, by omega, q3, q4, q5, fun x y a b c d s p => q6 x y a b c d (by omega) p⟩
theorem lPs_end {n m v l : Int} {W : Int → Int → Int} (h : lPs n m W n 0 v l) (hex : ∃ x y, (0 ≤ x ∧ x < n) ∧ (0 ≤ y ∧ y < n) ∧ 1 ≤ W x y) : 0 ≤ v ∧ lstP n W (v / 8) (v % 8) := by
  rcases h with ⟨q1, q2⟩ | ⟨q1, q2, q3, q4, q5, q6⟩
  · obtain ⟨x, y, a, b, c⟩ := hex
    have := q2 x y a.1 a.2 b.1 b.2 (by omega)
    omega
  · refine ⟨q1.1, ⟨by omega, q1.2.1⟩, ⟨by omega, q1.2.2⟩, by omega, fun x y a b c d p => ?_⟩
    have := q6 x y a b c d (by omega) p
    rw [← q3]
    exact this
theorem t_Pe_leastPlace {σ : eS} {p q : Nat} {m : Int} (hp : pP p q) (hn : 1 ≤ σ p 2 ∧ σ p 2 ≤ 8) (hm : σ p 3 = m) (hm2 : 0 ≤ m ∧ m ≤ 799999992) (hc : ∀ i j, 0 ≤ i → i < σ p 2 → 0 ≤ j → j < σ p 2 → pk σ q i j ≤ m) (hex : ∃ x y, (0 ≤ x ∧ x < σ p 2) ∧ (0 ≤ y ∧ y < σ p 2) ∧ 1 ≤ pk σ q x y) : MtI shA M_Pe_leastPlace [vr p] σ (fun σ' z => σ' = σ ∧ 0 ≤ z ∧ lstP (σ p 2) (pk σ q) (z / 8) (z % 8)) := by
  refine Mt.of okM_Pe_leastPlace (Nat.le_of_ble_eq_true rfl) (fun hk hg => ?_)
  refine ok_iconst 0 rfl rfl (by decide) (ok_ist1 1 rfl rfl rfl (ok_aload_n 2 rfl rfl rfl (ok_getI 3 rfl rfl fl_X5_19 (sP hp) rfl (Or.inl rfl) (ok_iconst 4 rfl rfl (by decide) (ok_iadd 5 rfl rfl (by omega) (ok_ist2 6 rfl rfl rfl (ok_iconst 7 rfl rfl (by decide) (ok_ist3 8 rfl rfl rfl ?_))))))))
  rw [hm]
  refine lpO3 (fun v l i : Int => [some (vr p), some (vi v), some (vi l), some (vi i), none, none]) (fun _ _ _ => σ) (fun v l i => 0 ≤ i ∧ i ≤ σ p 2 ∧ lPs (σ p 2) m (pk σ q) i 0 v l) (fun _ _ i => (8 - i).toNat) ?_ 0 _ 0 ⟨by omega, by omega, Or.inl ⟨rfl, fun x y a b c d s => by omega⟩⟩
  rintro v l i ⟨i1, i2, v1⟩ ih
  refine ok_iload_n 9 rfl rfl rfl (ok_aload_n 10 rfl rfl rfl (ok_getI 11 rfl rfl fl_X5_15 (sP hp) rfl (Or.inl rfl) (ok_icmp_ge 12 79 rfl rfl rfl (fun h16 => ?_) (fun h16 => ?_))))
  · refine ok_iload_n 45 rfl rfl rfl (ok_iret 46 rfl rfl rfl ?_)
    refine ⟨_, rfl, rfl, lPs_end (m := m) (l := l) ?_ hex⟩
    have e : i = σ p 2 := by omega
    rw [← e] at v1 ⊢
    exact v1
  · refine ok_iconst 13 rfl rfl (by decide) (ok_ist4 14 rfl rfl rfl ?_)
    have il : i < σ p 2 := by omega
    refine lpO3 (fun v l j : Int => [some (vr p), some (vi v), some (vi l), some (vi i), some (vi j), none]) (fun _ _ _ => σ) (fun v l j => 0 ≤ j ∧ j ≤ σ p 2 ∧ lPs (σ p 2) m (pk σ q) i j v l) (fun _ _ j => (8 - j).toNat) ?_ v l 0 ⟨by omega, by omega, v1⟩
    clear v1 l v
    rintro v l j ⟨j1, j2, v1⟩ ih2
    refine ok_iload 15 rfl rfl rfl (ok_aload_n 16 rfl rfl rfl (ok_getI 17 rfl rfl fl_X5_15 (sP hp) rfl (Or.inl rfl) (ok_icmp_ge 18 73 rfl rfl rfl (fun h28 => ?_) (fun h28 => ?_))))
    · refine ok_inc3 43 rfl rfl rfl (by first | omega | (simp [up_if]; omega) | (simp [up_if] at *; omega)) (ok_goto 44 11 rfl rfl rfl ?_)
      have e : j = σ p 2 := by omega
      rw [e] at v1
      exact ok_fg [some (vr p), some (vi _), some (vi _), some (vi (i + 1)), none, none] ⟨rfl, rfl, rfl, rfl, trivial⟩ (ih _ _ (i + 1) ⟨by omega, by omega, lPs_row v1⟩ (by omega))
    · have jl : j < σ p 2 := by omega
      have cb : σ q (i * 8 + j) ≤ m := hc i j i1 il j1 jl
      refine ok_aload_n 19 rfl rfl rfl (ok_getR 20 rfl rfl fl_X5_9 (sP hp) rfl (ok_iload_n 21 rfl rfl rfl (ok_bipush 22 rfl rfl (by decide) (by decide) (ok_imul 23 rfl rfl (by first | omega | (simp [up_if]; omega) | (simp [up_if] at *; omega)) (ok_iload 24 rfl rfl rfl (ok_iadd 25 rfl rfl (by first | omega | (simp [up_if]; omega) | (simp [up_if] at *; omega)) (ok_iald 26 rfl rfl (sQ hp) (by first | omega | (simp [up_if]; omega) | (simp [up_if] at *; omega)) (ok_ist5 27 rfl rfl rfl (ok_iload 28 rfl rfl rfl (ok_if_le 29 67 rfl rfl rfl (fun h47 => ?_) (fun h47 => ?_)))))))))))
      · refine ok_inc4 41 rfl rfl rfl (by first | omega | (simp [up_if]; omega) | (simp [up_if] at *; omega)) (ok_goto 42 22 rfl rfl rfl ?_)
        exact ok_fg [some (vr p), some (vi _), some (vi _), some (vi i), some (vi (j + 1)), none] ⟨rfl, rfl, rfl, rfl, rfl, trivial⟩ (ih2 _ _ (j + 1) ⟨by omega, by omega, lPs_old v1 ⟨i1, il⟩ ⟨j1, jl⟩ cb (Or.inl h47)⟩ (by omega))
      · refine ok_iload 30 rfl rfl rfl (ok_iload_n 31 rfl rfl rfl (ok_icmp_ge 32 67 rfl rfl rfl (fun h53 => ?_) (fun h53 => ?_)))
        · refine ok_inc4 41 rfl rfl rfl (by first | omega | (simp [up_if]; omega) | (simp [up_if] at *; omega)) (ok_goto 42 22 rfl rfl rfl ?_)
          exact ok_fg [some (vr p), some (vi _), some (vi _), some (vi i), some (vi (j + 1)), none] ⟨rfl, rfl, rfl, rfl, rfl, trivial⟩ (ih2 _ _ (j + 1) ⟨by omega, by omega, lPs_old v1 ⟨i1, il⟩ ⟨j1, jl⟩ cb (Or.inr h53)⟩ (by omega))
        · refine ok_iload 33 rfl rfl rfl (ok_ist2 34 rfl rfl rfl (ok_iload_n 35 rfl rfl rfl (ok_bipush 36 rfl rfl (by decide) (by decide) (ok_imul 37 rfl rfl (by first | omega | (simp [up_if]; omega) | (simp [up_if] at *; omega)) (ok_iload 38 rfl rfl rfl (ok_iadd 39 rfl rfl (by first | omega | (simp [up_if]; omega) | (simp [up_if] at *; omega)) (ok_ist1 40 rfl rfl rfl (ok_inc4 41 rfl rfl rfl (by first | omega | (simp [up_if]; omega) | (simp [up_if] at *; omega)) (ok_goto 42 22 rfl rfl rfl ?_)))))))))
          exact ok_fg [some (vr p), some (vi _), some (vi _), some (vi i), some (vi (j + 1)), none] ⟨rfl, rfl, rfl, rfl, rfl, trivial⟩ (ih2 _ _ (j + 1) ⟨by omega, by omega, lPs_new hn.2 ⟨i1, il⟩ ⟨j1, jl⟩ v1 (show 0 < σ q (i * 8 + j) by omega) (show σ q (i * 8 + j) < l by omega)⟩ (by omega))
/-- the counter of searches -/
def cSe (σ σ' : eS) (d : Int) : Prop := iSe σ' ∧ σ 16 3 ≤ σ' 16 3 ∧ σ' 16 3 ≤ σ 16 3 + d
theorem cpl_ev {n m : Int} {W : Int → Int → Int} (hn : 1 ≤ n) (he : EvW n W m) (hm : 1 ≤ m) : cpl n (fun i j => 1 ≤ W i j) n.toNat 0 := by
  obtain ⟨f, hf, hp⟩ := birk he (by omega) (by omega)
  exact cpl_of (by omega) hf (fun i a b => by have := hp i a b; omega)
theorem cpl_thr {n m a b : Int} {W : Int → Int → Int} (hn : 1 ≤ n) (he : EvW n W m) (h : lstP n W a b) : cpl n (thr W a b) n.toNat 0 := by
  obtain ⟨f, hf, hf0, hp⟩ := birk2 (i0 := a) (j0 := b) he h.1 h.2.1 (by have := h.2.2.1; omega)
  refine cpl_of (by omega) hf (fun i x c => ⟨by have := hp i x c; omega, fun q => by rw [q]; exact hf0, fun q => ?_⟩)
  rcases (show i < a ∨ i = a ∨ a < i by omega) with y | y | y
  · exact absurd (by rw [q, hf0]) (hf.2 i a x y h.1.2)
  · exact y
  · exact absurd (by rw [q, hf0]) (hf.2 a i h.1.1 y c)
/-- the widest level is above 0, and some choice lies at it -/
theorem wd_ps {n : Int} {W : Int → Int → Int} {v : Int → Int} (hn : 1 ≤ n ∧ n ≤ 8) (hw : ∀ i j, 0 ≤ i → i < n → 0 ≤ j → j < n → 0 ≤ W i j) (hc : cpl n (fun i j => 1 ≤ W i j) n.toNat 0) (ha : v (p2 n - 1) = 9223372036854775807) (hd : ∀ T, 0 ≤ T → T < p2 n - 1 → dpO n 0 (fun i j => 1 ≤ W i j) W v T) : 1 ≤ v 0 ∧ cpl n (fun i j => v 0 ≤ W i j) n.toNat 0 := by
  have b2 := bit2 (n := n) ⟨by omega, hn.2⟩
  have b24 := b2.2.2.2 hn.1
  have hv := (dp_ge (l := 1) (sums := 0) (v := v) (w := W) hn hw (by rw [if_pos rfl]; exact ha) (fun T a b => hd T a b) n.toNat 0 (by omega) (by omega) (by simp [pc]) hc).2 rfl (by decide)
  exact ⟨hv, dp_le (x := v 0) (v := v) (l := 1) (w := W) hv hn (fun T a b => hd T a b) n.toNat 0 (by omega) (by omega) (by simp [pc]) (Int.le_refl _)⟩
theorem rc_ps {n : Int} {W : Int → Int → Int} {v : Int → Int} (hn : 1 ≤ n ∧ n ≤ 8) (hw : ∀ i j, 0 ≤ i → i < n → 0 ≤ j → j < n → 0 ≤ W i j) (hc : cpl n (fun i j => 1 ≤ W i j) n.toNat 0) (ha : v (p2 n - 1) = 0) (hd : ∀ T, 0 ≤ T → T < p2 n - 1 → dpO n 1 (fun i j => 1 ≤ W i j) W v T) : 0 ≤ v 0 := by
  have b2 := bit2 (n := n) ⟨by omega, hn.2⟩
  have b24 := b2.2.2.2 hn.1
  exact (dp_ge (l := 1) (sums := 1) (v := v) (w := W) hn hw (by rw [if_neg (by decide)]; exact ha) (fun T a b => hd T a b) n.toNat 0 (by omega) (by omega) (by simp [pc]) hc).1
def bd64 (σ : eS) (q : Nat) : Prop := ∀ k : Int, 0 ≤ k → k < 64 → 0 ≤ σ q k ∧ σ q k ≤ 799999992
def QCh (p q : Nat) (r : Int) (σ σ' : eS) (z : Int) : Prop := fr rgCh σ σ' ∧ iCh σ' ∧ cSe σ σ' 1 ∧ z = 1 ∧ chS (σ p 2) (pk σ q) r (fun i => σ' 17 i)
theorem t_Pe_choose {σ : eS} {p q : Nat} {r m : Int} (hp : pP p q) (hr : 0 ≤ r ∧ r ≤ 3) (hn : 1 ≤ σ p 2 ∧ σ p 2 ≤ 8) (hb : bd64 σ q) (hm : σ p 3 = m) (hm2 : 1 ≤ m ∧ m ≤ 799999992) (he : EvW (σ p 2) (pk σ q) m) (hC : iCh σ) (hS : iSe σ) (hS2 : σ 16 3 < 2147483647) : MtI shA M_Pe_choose [vr p, vi r] σ (QCh p q r σ) := by
  refine Mt.of okM_Pe_choose (Nat.le_of_ble_eq_true rfl) (fun hk hg => ?_)
  obtain ⟨n0, n1, n2, n3, n4⟩ := pP_n hp
  have hn0 : 0 ≤ σ p 2 ∧ σ p 2 ≤ 8 := ⟨by omega, hn.2⟩
  have hcp := cpl_ev hn.1 he hm2.1
  have hw0 := he.1
  have hex : ∃ x y, (0 ≤ x ∧ x < σ p 2) ∧ (0 ≤ y ∧ y < σ p 2) ∧ 1 ≤ pk σ q x y := by
    obtain ⟨f, hf, hq⟩ := birk he (by omega) (by omega)
    exact ⟨0, f 0, ⟨by omega, by omega⟩, hf.1 0 (by omega) (by omega), by have := hq 0 (by omega) (by omega); omega⟩
  have fF : ∀ {τ : eS} , fr rgFf σ τ → fr rgCh σ τ := fun {τ} f => f.mono (fun c k w => by simp only [rgFf, rgCh] at w ⊢; omega)
  refine ok_aload_n 0 rfl rfl rfl (ok_getR 1 rfl rfl fl_X5_9 (sP hp) rfl (ok_aload_n 2 rfl rfl rfl (ok_getI 3 rfl rfl fl_X5_15 (sP hp) rfl (Or.inl rfl) (ok_iconst 4 rfl rfl (by decide) (ok_callSL (M' := M_Jo_of) (as := [_, _, _]) 5 rfl rfl ml_X5_77 (t_Jo_of (sQ hp) hn0) ⟨Nat.le_of_ble_eq_true rfl, Nat.le_of_ble_eq_true rfl⟩ rfl (Nat.le_of_ble_eq_true rfl) (fun σ' J hJ => ?_))))))
  obtain ⟨hs_, hJ⟩ := hJ
  rw [hs_]; clear hs_ σ'
  refine ok_lst2 6 rfl rfl rfl (ok_iload_n 7 rfl rfl rfl ?_)
  rcases (by omega : r = 1 ∨ r = 2 ∨ r = 3 ∨ (r < 1 ∨ 3 < r)) with q_ | q_ | q_ | q_
  · subst q_
    refine ok_tin 8 (len := 26) 40 rfl rfl (by decide) (by decide) rfl rfl ?_
    refine ok_aload_n 9 rfl rfl rfl (ok_getR 10 rfl rfl fl_X5_28 (sP hp) rfl (ok_aload_n 11 rfl rfl rfl (ok_getR 12 rfl rfl fl_X5_9 (sP hp) rfl (ok_lload_n 13 rfl rfl rfl (ok_aload_n 14 rfl rfl rfl (ok_getI 15 rfl rfl fl_X5_15 (sP hp) rfl (Or.inl rfl) (ok_callVL (M' := M_Ch_greatestLeast) (as := [_, _, _]) 16 rfl rfl ml_X5_83 (t_Ch_greatestLeast (sQ hp) hn0 hJ (by omega) hb) rfl rfl (Nat.le_of_ble_eq_true rfl) ⟨Nat.le_of_ble_eq_true rfl, Nat.le_of_ble_eq_true rfl⟩ rfl (Nat.le_of_ble_eq_true rfl) (fun τ g f => ?_))))))))
    obtain ⟨f1, f2, f3, f4⟩ := f
    have b2 := bit2 (n := σ p 2) hn0
    have b24 := b2.2.2.2 hn.1
    have f5 := (f4 0 (by omega) (by omega)).2.2
    obtain ⟨w1, w2⟩ := wd_ps (v := fun k => τ 18 k) hn hw0 hcp f3 (fun T a b => (f4 T a b).1)
    have w1 : 1 ≤ τ 18 0 := w1
    have f0 : fr rgCh σ τ := f1.mono (fun c k w => by simp only [rgCh]; omega)
    have hC0 : iCh τ := iCh_cg hC (fun k => f1 _ _ (by simp))
    have ho0 : τ p 2 = σ p 2 := f1 _ _ (by omega)
    have hS0 : iSe τ := iSe_cg hS (f1 _ _ (by omega)) (fun k => f1 _ _ (by omega))
    have e163 : τ 16 3 = σ 16 3 := f1 _ _ (by omega)
    refine ok_l2i 17 rfl rfl (by omega) (ok_ist4 18 rfl rfl rfl (ok_iload 19 rfl rfl rfl (ok_if_le 20 95 rfl rfl rfl (fun h61 => ?_) (fun h61 => ?_))))
    · exfalso; omega
    · refine ok_aload_n 21 rfl rfl rfl (ok_getR 22 rfl rfl fl_X5_28 (sP hp) rfl (ok_aload_n 23 rfl rfl rfl (ok_getR 24 rfl rfl fl_X5_9 (sP hp) rfl (ok_aload_n 25 rfl rfl rfl (ok_getI 26 rfl rfl fl_X5_15 (sP hp) rfl (Or.inl rfl) (ok_iload 27 rfl rfl rfl (ok_callSL (M' := M_Jo_of) (as := [_, _, _]) 28 rfl rfl ml_X5_77 (t_Jo_of (sQ hp) (by omega)) ⟨Nat.le_of_ble_eq_true rfl, Nat.le_of_ble_eq_true rfl⟩ rfl (Nat.le_of_ble_eq_true rfl) (fun σ' J2 hJ2 => ?_))))))))
      obtain ⟨hs_, hJ2⟩ := hJ2
      rw [hs_]; clear hs_ σ'
      have hJ3 : jOf J2 (σ p 2) (fun i j => g ≤ pk σ q i j) := by
        rw [ho0] at hJ2
        refine ⟨hJ2.1, fun x y a b c d => ?_⟩
        have e := f1 q (x * 8 + y) (by omega)
        rw [hJ2.2 x y a b c d]
        (try dsimp only)
        rw [e]
        exact Iff.rfl
      refine ok_aload_n 29 rfl rfl rfl (ok_getI 30 rfl rfl fl_X5_15 (sP hp) rfl (Or.inl rfl) ?_)
      rw [ho0]
      refine ok_callVI (M' := M_Ch_findFirst) (as := [_, _]) 31 rfl rfl ml_X5_87 (t_Ch_findFirst hC0 hn0 hJ3 hS0 (by omega)) rfl rfl (Nat.le_of_ble_eq_true rfl) ⟨Nat.le_of_ble_eq_true rfl, Nat.le_of_ble_eq_true rfl⟩ rfl (Nat.le_of_ble_eq_true rfl) (fun τ2 z2 f2 => ?_)
      obtain ⟨k1, k2, k3, k4, k5⟩ := f2
      have w3 : cpl (σ p 2) (fun i j => g ≤ pk σ q i j) (σ p 2).toNat 0 := by rw [f2]; exact w2
      have k6 : z2 = 1 ∧ fstC (σ p 2) (okJ (σ p 2) (fun i j => g ≤ pk σ q i j)) (fun i => τ2 17 i) := by
        rcases k5 with ⟨-, x⟩ | ⟨x, -, y⟩
        · exact absurd w3 x
        · exact ⟨x, y⟩
      have k7 : fr rgCh σ τ2 := f0.tr (k1.mono (fun c k w => by simp only [rgFf, rgCh] at w ⊢; omega))
      refine ok_if_eq 32 95 rfl rfl rfl (fun h88 => ?_) (fun h88 => ?_)
      · exfalso; omega
      · refine ok_iconst 33 rfl rfl (by decide) (ok_goto 34 96 rfl rfl rfl (ok_zret 36 rfl rfl rfl (by first | omega | (simp [up_if]; omega) | (simp [up_if] at *; omega)) ?_))
        exact ⟨_, rfl, k7, k2, ⟨k4, by omega, by omega⟩, rfl, Or.inr (Or.inl ⟨by omega, g, by omega, ⟨fun k => τ 18 k, f3, fun T a b => (f4 T a b).1, f2⟩, k6.2⟩)⟩
  · subst q_
    refine ok_tin 8 (len := 26) 97 rfl rfl (by decide) (by decide) rfl rfl ?_
    refine ok_aload_n 37 rfl rfl rfl (ok_callVI (M' := M_Pe_leastPlace) (as := []) 38 rfl rfl ml_X5_91 (t_Pe_leastPlace (m := m) hp hn hm ⟨by omega, hm2.2⟩ (fun i j a b c d => EvW_bd he ⟨a, b⟩ ⟨c, d⟩) hex) (sP hp) rfl (Nat.le_of_ble_eq_true rfl) ⟨Nat.le_of_ble_eq_true rfl, Nat.le_of_ble_eq_true rfl⟩ rfl (Nat.le_of_ble_eq_true rfl) (fun σ' k hk1 => ?_))
    obtain ⟨hs_, hk1⟩ := hk1
    rw [hs_]; clear hs_ σ'
    obtain ⟨k0, k1⟩ := hk1
    refine ok_ist5 39 rfl rfl rfl (ok_aload_n 40 rfl rfl rfl (ok_getR 41 rfl rfl fl_X5_28 (sP hp) rfl (ok_lload_n 42 rfl rfl rfl (ok_iload 43 rfl rfl rfl (ok_bipush 44 rfl rfl (by decide) (by decide) (ok_idiv 45 rfl rfl (by first | omega | (simp [up_if]; omega) | (simp [up_if] at *; omega)) (by first | omega | (simp [up_if]; omega) | (simp [up_if] at *; omega)) (ok_iload 46 rfl rfl rfl (ok_bipush 47 rfl rfl (by decide) (by decide) (ok_irem 48 rfl rfl (by first | omega | (simp [up_if]; omega) | (simp [up_if] at *; omega)) (by first | omega | (simp [up_if]; omega) | (simp [up_if] at *; omega)) (ok_callSL (M' := M_Jo_through) (as := [_, _, _]) 49 rfl rfl ml_X5_94 (t_Jo_through hn.2 k1.1 k1.2.1 hJ k1.2.2.1) ⟨Nat.le_of_ble_eq_true rfl, Nat.le_of_ble_eq_true rfl⟩ rfl (Nat.le_of_ble_eq_true rfl) (fun σ' J3 hJ3 => ?_)))))))))))
    obtain ⟨hs_, hJ3⟩ := hJ3
    rw [hs_]; clear hs_ σ'
    refine ok_aload_n 50 rfl rfl rfl (ok_getI 51 rfl rfl fl_X5_15 (sP hp) rfl (Or.inl rfl) (ok_callVI (M' := M_Ch_findFirst) (as := [_, _]) 52 rfl rfl ml_X5_87 (t_Ch_findFirst hC hn0 hJ3 hS hS2) rfl rfl (Nat.le_of_ble_eq_true rfl) ⟨Nat.le_of_ble_eq_true rfl, Nat.le_of_ble_eq_true rfl⟩ rfl (Nat.le_of_ble_eq_true rfl) (fun τ2 z2 f2 => ?_)))
    obtain ⟨l1, l2, l3, l4, l5⟩ := f2
    have l6 : z2 = 1 ∧ fstC (σ p 2) (okJ (σ p 2) (thr (pk σ q) (k / 8) (k % 8))) (fun i => τ2 17 i) := by
      rcases l5 with ⟨-, x⟩ | ⟨x, -, y⟩
      · exact absurd (cpl_thr hn.1 he k1) x
      · exact ⟨x, y⟩
    refine ok_zret 53 rfl rfl rfl (by omega) ?_
    exact ⟨_, rfl, fF l1, l2, ⟨l4, by omega, by omega⟩, l6.1, Or.inr (Or.inr (Or.inl ⟨by omega, k / 8, k % 8, k1, l6.2⟩))⟩
  · subst q_
    refine ok_tin 8 (len := 26) 129 rfl rfl (by decide) (by decide) rfl rfl ?_
    refine ok_aload_n 54 rfl rfl rfl (ok_getR 55 rfl rfl fl_X5_28 (sP hp) rfl (ok_aload_n 56 rfl rfl rfl (ok_getR 57 rfl rfl fl_X5_9 (sP hp) rfl (ok_lload_n 58 rfl rfl rfl (ok_aload_n 59 rfl rfl rfl (ok_getI 60 rfl rfl fl_X5_15 (sP hp) rfl (Or.inl rfl) (ok_callVL (M' := M_Ch_findRichest) (as := [_, _, _]) 61 rfl rfl ml_X5_98 (t_Ch_findRichest (sQ hp) hC hn0 hJ (by omega) (by omega) hb) rfl rfl (Nat.le_of_ble_eq_true rfl) ⟨Nat.le_of_ble_eq_true rfl, Nat.le_of_ble_eq_true rfl⟩ rfl (Nat.le_of_ble_eq_true rfl) (fun τ2 z2 f2 => ?_))))))))
    obtain ⟨g1, g2, g3, g4, g5, g6⟩ := f2
    have g7 := rc_ps (v := fun k => τ2 18 k) hn hw0 hcp g4 (fun T a b => (g5 T a b).1)
    have g7 : 0 ≤ τ2 18 0 := g7
    refine ok_ldc2 62 (-1) rfl rfl kc_X5_101 (by decide) (ok_lcmp_eq 63 64 156 rfl rfl rfl rfl rfl (fun h148 => ?_) (fun h148 => ?_))
    · exfalso; omega
    · refine ok_iconst 65 rfl rfl (by decide) (ok_goto 66 157 rfl rfl rfl (ok_zret 68 rfl rfl rfl (by first | omega | (simp [up_if]; omega) | (simp [up_if] at *; omega)) ?_))
      exact ⟨_, rfl, g1.mono (fun c k w => by simp only [rgFr, rgCh] at w ⊢; omega), g2, ⟨iSe_cg hS (g1 _ _ (by simp [rgFr])) (fun k => g1 _ _ (by simp [rgFr])), by rw [g1 16 3 (by simp [rgFr])]; omega, by rw [g1 16 3 (by simp [rgFr])]; omega⟩, rfl, Or.inr (Or.inr (Or.inr ⟨by omega, fun k => τ2 18 k, g4, fun T a b => (g5 T a b).1, g6 (by omega)⟩))⟩
  · refine ok_tout 8 (len := 26) 158 rfl rfl q_ rfl ?_
    refine ok_aload_n 69 rfl rfl rfl (ok_getR 70 rfl rfl fl_X5_28 (sP hp) rfl (ok_lload_n 71 rfl rfl rfl (ok_aload_n 72 rfl rfl rfl (ok_getI 73 rfl rfl fl_X5_15 (sP hp) rfl (Or.inl rfl) (ok_callVI (M' := M_Ch_findFirst) (as := [_, _]) 74 rfl rfl ml_X5_87 (t_Ch_findFirst hC hn0 hJ hS hS2) rfl rfl (Nat.le_of_ble_eq_true rfl) ⟨Nat.le_of_ble_eq_true rfl, Nat.le_of_ble_eq_true rfl⟩ rfl (Nat.le_of_ble_eq_true rfl) (fun τ2 z2 f2 => ?_))))))
    obtain ⟨l1, l2, l3, l4, l5⟩ := f2
    have l6 : z2 = 1 ∧ fstC (σ p 2) (okJ (σ p 2) (fun i j => 1 ≤ pk σ q i j)) (fun i => τ2 17 i) := by
      rcases l5 with ⟨-, x⟩ | ⟨x, -, y⟩
      · exact absurd hcp x
      · exact ⟨x, y⟩
    refine ok_zret 75 rfl rfl rfl (by omega) ?_
    exact ⟨_, rfl, fF l1, l2, ⟨l4, by omega, by omega⟩, l6.1, Or.inl ⟨by omega, l6.2⟩⟩
/-- one part taken: what the peeler and the choices are behind it -/
def QTp (p q : Nat) (r m : Int) (σ σ' : eS) : Prop := fr (rgPe p q) σ σ' ∧ iCh σ' ∧ cSe σ σ' 1 ∧ bd64 σ' q ∧ σ' p 3 = m - σ' p 5 ∧ σ' p 4 = wr (σ p 4 + 1) ∧ stp (σ p 2) r (pk σ q) (pk σ' q) (fun i => σ' 17 i) (σ' p 5)
theorem pk_ij {n i j a b : Int} (hn : n ≤ 8) (hj : 0 ≤ j ∧ j < n) (hb : 0 ≤ b ∧ b < n) (h : i * 8 + j = a * 8 + b) : i = a ∧ j = b := by omega
theorem t_Pe_takePart {σ : eS} {p q : Nat} {r m : Int} (hp : pP p q) (hr : 0 ≤ r ∧ r ≤ 3) (hn : 1 ≤ σ p 2 ∧ σ p 2 ≤ 8) (hb : bd64 σ q) (hm : σ p 3 = m) (hm2 : 1 ≤ m ∧ m ≤ 799999992) (he : EvW (σ p 2) (pk σ q) m) (hC : iCh σ) (hS : iSe σ) (hS2 : σ 16 3 < 2147483647) : MtV shA M_Pe_takePart [vr p, vi r] σ (fun σ' => QTp p q r m σ σ') := by
  refine Mt.of okM_Pe_takePart (Nat.le_of_ble_eq_true rfl) (fun hk hg => ?_)
  obtain ⟨n0, n1, n2, n3, n4⟩ := pP_n hp
  obtain ⟨n, en⟩ : ∃ n, n = σ p 2 := ⟨_, rfl⟩
  obtain ⟨W, eW⟩ : ∃ W, W = pk σ q := ⟨_, rfl⟩
  rw [← en] at hn he
  rw [← eW] at he
  obtain ⟨σ1, e1⟩ : ∃ τ, τ = up σ p 5 0 := ⟨_, rfl⟩
  have f1 : fr (fun c k => c = p ∧ k = 5) σ σ1 := by rw [e1]; exact fr_up fr.rf ⟨rfl, rfl⟩
  have k2 : σ1 p 2 = n := by rw [f1 p 2 (by omega), en]
  have k3 : σ1 p 3 = m := by rw [f1 p 3 (by omega), hm]
  have kq : ∀ k, σ1 q k = σ q k := fun k => f1 q k (by omega)
  have kW : pk σ1 q = W := by rw [eW]; funext i j; exact kq _
  have kC : iCh σ1 := iCh_cg hC (fun k => f1 17 k (by omega))
  have kS : iSe σ1 := iSe_cg hS (f1 16 3 (by omega)) (fun k => f1 19 k (by omega))
  have k16 : σ1 16 3 = σ 16 3 := f1 16 3 (by omega)
  have kb : bd64 σ1 q := fun k a b => by rw [kq]; exact hb k a b
  refine ok_aload_n 0 rfl rfl rfl (ok_iconst 1 rfl rfl (by decide) (ok_putI 2 rfl rfl fl_X5_25 (sP hp) rfl rfl rfl ?_))
  rw [← e1]
  refine ok_aload_n 3 rfl rfl rfl (ok_getI 4 rfl rfl fl_X5_19 (sP hp) rfl (Or.inl rfl) (ok_if_le 5 20 rfl rfl rfl (fun h9 => ?_) (fun h9 => ?_)))
  · exfalso; omega
  · refine ok_aload_n 6 rfl rfl rfl (ok_iload_n 7 rfl rfl rfl (ok_callVI (M' := M_Pe_choose) (as := [_]) 8 rfl rfl ml_X5_62 (t_Pe_choose (m := m) hp hr (by rw [k2]; exact hn) kb k3 hm2 (by rw [k2, kW]; exact he) kC kS (by omega)) (sP hp) rfl (Nat.le_of_ble_eq_true rfl) ⟨Nat.le_of_ble_eq_true rfl, Nat.le_of_ble_eq_true rfl⟩ rfl (Nat.le_of_ble_eq_true rfl) (fun τ z f => ?_)))
    obtain ⟨g1, g2, g3, g4, g5⟩ := f
    rw [k2, kW] at g5
    refine ok_if_ne 9 26 rfl rfl rfl (fun h17 => ?_) (fun h17 => ?_)
    · have hl : τ p 3 = m := by rw [g1 p 3 (by simp only [rgCh]; omega), k3]
      have t2 : τ p 2 = n := by rw [g1 p 2 (by simp only [rgCh]; omega), k2]
      have t4 : τ p 4 = σ p 4 := by rw [g1 p 4 (by simp only [rgCh]; omega), f1 p 4 (by omega)]
      have tq : ∀ k, τ q k = σ q k := fun k => by rw [g1 q k (by simp only [rgCh]; omega), kq]
      have tW : ∀ i j, τ q (i * 8 + j) = W i j := fun i j => by rw [tq, eW]; rfl
      have fA : fr (rgPe p q) σ τ := (f1.mono (fun c k w => by simp only [rgPe]; omega)).tr (g1.mono (fun c k w => by simp only [rgCh, rgPe] at w ⊢; omega))
      obtain ⟨ps1, ps2⟩ := chS_ps hn g5
      have ps1 : perm n (fun i => τ 17 i) := ps1
      have ps3 : ∀ i, 0 ≤ i → i < n → (0 ≤ τ 17 i ∧ τ 17 i < n) ∧ 1 ≤ W i (τ 17 i) ∧ W i (τ 17 i) ≤ m := fun i a b => ⟨ps1.1 i a b, ps2 i a b, EvW_bd he ⟨a, b⟩ (ps1.1 i a b)⟩
      clear h17 h9 ps2
      refine ok_aload_n 14 rfl rfl rfl (ok_aload_n 15 rfl rfl rfl (ok_getI 16 rfl rfl fl_X5_19 (sP hp) rfl (Or.inl rfl) (ok_putI 17 rfl rfl fl_X5_25 (sP hp) rfl rfl rfl (ok_iconst 18 rfl rfl (by decide) (ok_ist2 19 rfl rfl rfl ?_)))))
      rw [hl]
      refine lpO2 (fun (i : Int) (_ : eS) => [some (vr p), some (vi r), some (vi i)]) (fun _ ρ => ρ) (fun i ρ => 0 ≤ i ∧ i ≤ n ∧ fr (fun c k => c = p ∧ k = 5) τ ρ ∧ 1 ≤ ρ p 5 ∧ ρ p 5 ≤ m ∧ (∀ k, 0 ≤ k → k < i → ρ p 5 ≤ W k (τ 17 k)) ∧ (0 < i → ∃ k, 0 ≤ k ∧ k < i ∧ ρ p 5 = W k (τ 17 k)) ∧ (i = 0 → ρ p 5 = m)) (fun i _ => (8 - i).toNat) ?_ 0 _ ⟨by omega, by omega, fr_up fr.rf ⟨rfl, rfl⟩, by rw [up_same]; omega, by rw [up_same]; omega, fun k a b => by omega, fun q => by omega, fun _ => up_same _ _ _ _⟩
      rintro i ρ ⟨i1, i2, g, w1, w2, w3, w4, w5⟩ ih
      have r2 : ρ p 2 = n := by rw [g p 2 (by omega), t2]
      have r17 : ∀ k, ρ 17 k = τ 17 k := fun k => g 17 k (by omega)
      have rq : ∀ k, ρ q k = τ q k := fun k => g q k (by omega)
      refine ok_iload_n 20 rfl rfl rfl (ok_aload_n 21 rfl rfl rfl (ok_getI 22 rfl rfl fl_X5_15 (sP hp) rfl (Or.inl rfl) (ok_icmp_ge 23 80 rfl rfl rfl (fun h41 => ?_) (fun h41 => ?_))))
      · refine ok_iconst 43 rfl rfl (by decide) (ok_ist2 44 rfl rfl rfl ?_)
        clear ih
        have ein : i = n := by omega
        obtain ⟨w, ew⟩ : ∃ w, w = ρ p 5 := ⟨_, rfl⟩
        rw [← ew] at w1 w2 w3 w4
        rw [ein] at w3 w4
        have w4 := w4 (by omega)
        clear h41 i1 i2 w5 ein i
        refine lpO2 (fun (i : Int) (_ : eS) => [some (vr p), some (vi r), some (vi i)]) (fun _ υ => υ) (fun i υ => 0 ≤ i ∧ i ≤ n ∧ fr (fun c _ => c = q) ρ υ ∧ bd64 υ q ∧ ∀ a j, 0 ≤ a → a < n → 0 ≤ j → j < n → υ q (a * 8 + j) = W a j - (if a < i ∧ j = τ 17 a then w else 0)) (fun i _ => (8 - i).toNat) ?_ 0 ρ ⟨by omega, by omega, fr.rf, fun k a b => by rw [rq, tq]; exact hb k a b, fun a j y1 y2 y3 y4 => by rw [if_neg (by omega), rq, tW]; omega⟩
        rintro i υ ⟨i1, i2, u, u1, u2⟩ ih
        have v2 : υ p 2 = n := by rw [u p 2 (by omega), r2]
        have v5 : υ p 5 = w := by rw [u p 5 (by omega), ew]
        have v3 : υ p 3 = m := by rw [u p 3 (by omega), g p 3 (by omega), hl]
        have v4 : υ p 4 = σ p 4 := by rw [u p 4 (by omega), g p 4 (by omega), t4]
        have v17 : ∀ k, υ 17 k = τ 17 k := fun k => by rw [u 17 k (by omega), r17]
        refine ok_iload_n 45 rfl rfl rfl (ok_aload_n 46 rfl rfl rfl (ok_getI 47 rfl rfl fl_X5_15 (sP hp) rfl (Or.inl rfl) (ok_icmp_ge 48 122 rfl rfl rfl (fun h87 => ?_) (fun h87 => ?_))))
        · refine ok_aload_n 68 rfl rfl rfl (ok_dup 69 rfl rfl rfl (ok_getI 70 rfl rfl fl_X5_19 (sP hp) rfl (Or.inl rfl) (ok_aload_n 71 rfl rfl rfl (ok_getI 72 rfl rfl fl_X5_25 (sP hp) rfl (Or.inl rfl) (ok_isub 73 rfl rfl (by first | omega | (simp [up_if]; omega) | (simp [up_if] at *; omega)) (ok_putI 74 rfl rfl fl_X5_19 (sP hp) rfl rfl rfl (ok_aload_n 75 rfl rfl rfl (ok_dup 76 rfl rfl rfl (ok_getI 77 rfl rfl fl_X5_22 (sP hp) rfl (Or.inl rfl) (ok_iconst 78 rfl rfl (by decide) (ok_iaddW 79 rfl rfl (ok_putI 80 rfl rfl fl_X5_22 (sP hp) rfl rfl rfl (ok_vret 81 rfl rfl rfl ?_)))))))))))))
          have ein : i = n := by omega
          have x5 : ∀ a b : Int, up (up υ p 3 a) p 4 b p 5 = w := fun a b => by rw [up_nk _ _ _ _ (by decide), up_nk _ _ _ _ (by decide), v5]
          have xq : ∀ a b k : Int, up (up υ p 3 a) p 4 b q k = υ q k := fun a b k => by rw [up_ne _ _ _ _ (by omega), up_ne _ _ _ _ (by omega)]
          have x17 : ∀ a b k : Int, up (up υ p 3 a) p 4 b 17 k = τ 17 k := fun a b k => by rw [up_ne _ _ _ _ (by omega), up_ne _ _ _ _ (by omega), v17]
          have x16 : ∀ a b : Int, ∀ c k, (c = 16 ∨ c = 19) → up (up υ p 3 a) p 4 b c k = τ c k := fun a b c k hc => by rw [up_ne _ _ _ _ (by omega), up_ne _ _ _ _ (by omega), u c k (by omega), g c k (by omega)]
          refine ⟨rfl, ?_, ?_, ?_, ?_, ?_, ?_, ?_⟩
          · refine fr_up (fr_up ?_ (by simp [rgPe])) (by simp [rgPe])
            exact (fA.tr (g.mono (fun c k w => by simp only [rgPe]; omega))).tr (u.mono (fun c k w => by simp only [rgPe]; omega))
          · exact iCh_cg g2 (fun k => x17 _ _ k)
          · obtain ⟨y1, y2, y3⟩ := g3
            refine ⟨iSe_cg y1 (x16 _ _ 16 3 (Or.inl rfl)) (fun k => x16 _ _ 19 k (Or.inr rfl)), ?_, ?_⟩
            · rw [x16 _ _ 16 3 (Or.inl rfl)]; omega
            · rw [x16 _ _ 16 3 (Or.inl rfl)]; omega
          · exact fun k a b => by rw [xq]; exact u1 k a b
          · rw [up_nk _ _ _ _ (by decide), up_same, x5]; omega
          · rw [up_same, up_nk _ _ _ _ (by decide), v4]
          · rw [x5, ← en, ← eW]
            refine ⟨chS_cc (fun i _ _ => x17 _ _ i) g5, ?_, fun i a b => ?_, fun a j y1 y2 y3 y4 => ?_⟩
            · obtain ⟨k, a, b, c⟩ := w4
              exact ⟨k, a, b, by (try dsimp only); rw [x17]; exact c⟩
            · (try dsimp only); rw [x17]; exact w3 i a b
            · show up (up υ p 3 _) p 4 _ q (a * 8 + j) = _
              try dsimp only
              simp only [xq, x17]
              rw [u2 a j y1 y2 y3 y4]
              by_cases y : j = τ 17 a
              · rw [if_pos y, if_pos ⟨by omega, y⟩]
              · rw [if_neg y, if_neg (fun x => y x.2)]
        · obtain ⟨c1, c2, c3⟩ := ps3 i i1 (by omega)
          have cw := u2 i (τ 17 i) i1 (by omega) c1.1 c1.2
          rw [if_neg (by omega)] at cw
          have cl := w3 i i1 (by omega)
          have c4 : 0 ≤ υ 17 i ∧ υ 17 i < n := by rw [v17]; exact c1
          have cw2 : υ q (i * 8 + υ 17 i) = W i (τ 17 i) := by rw [v17, cw]; omega
          refine ok_aload_n 49 rfl rfl rfl (ok_getR 50 rfl rfl fl_X5_9 (sP hp) rfl (ok_iload_n 51 rfl rfl rfl (ok_bipush 52 rfl rfl (by decide) (by decide) (ok_imul 53 rfl rfl (by first | omega | (simp [up_if]; omega) | (simp [up_if] at *; omega)) (ok_aload_n 54 rfl rfl rfl (ok_getR 55 rfl rfl fl_X5_28 (sP hp) rfl (ok_getR 56 rfl rfl fl_X5_66 rfl rfl (ok_iload_n 57 rfl rfl rfl (ok_iald 58 rfl rfl rfl (by first | omega | (simp [up_if]; omega) | (simp [up_if] at *; omega)) (ok_iadd 59 rfl rfl (by first | omega | (simp [up_if]; omega) | (simp [up_if] at *; omega)) (ok_dup2 60 rfl rfl ⟨rfl, rfl⟩ (ok_iald 61 rfl rfl (sQ hp) (by first | omega | (simp [up_if]; omega) | (simp [up_if] at *; omega)) (ok_aload_n 62 rfl rfl rfl (ok_getI 63 rfl rfl fl_X5_25 (sP hp) rfl (Or.inl rfl) (ok_isub 64 rfl rfl (by first | omega | (simp [up_if]; omega) | (simp [up_if] at *; omega)) (ok_iast 65 rfl rfl (sQ hp) (by first | omega | (simp [up_if]; omega) | (simp [up_if] at *; omega)) (ok_inc2 66 rfl rfl rfl (by first | omega | (simp [up_if]; omega) | (simp [up_if] at *; omega)) (ok_goto 67 82 rfl rfl rfl ?_))))))))))))))))))
          rw [v5, cw2, v17]
          refine ih (i + 1) _ ⟨by omega, by omega, fr_up u rfl, fun k a b => ?_, fun a j y1 y2 y3 y4 => ?_⟩ (by omega)
          · rw [up_if]
            by_cases y : k = i * 8 + τ 17 i
            · rw [if_pos ⟨rfl, y⟩]; omega
            · rw [if_neg (fun x => y x.2)]; exact u1 k a b
          · rw [up_if]
            by_cases y : a * 8 + j = i * 8 + τ 17 i
            · obtain ⟨ya, yj⟩ := pk_ij hn.2 ⟨y3, y4⟩ c1 y
              rw [if_pos ⟨rfl, y⟩, if_pos ⟨by omega, by rw [ya]; exact yj⟩, ya, yj]
            · rw [if_neg (fun x => y x.2), u2 a j y1 y2 y3 y4]
              by_cases y5 : a < i ∧ j = τ 17 a
              · rw [if_pos y5, if_pos ⟨by omega, y5.2⟩]
              · rw [if_neg y5, if_neg]
                rintro ⟨y6, y7⟩
                by_cases y8 : a = i
                · exact y (by rw [y7, y8])
                · exact y5 ⟨by omega, y7⟩
      · obtain ⟨c1, c2, c3⟩ := ps3 i i1 (by omega)
        rw [← r17] at c1
        have cw : ρ q (i * 8 + ρ 17 i) = W i (τ 17 i) := by rw [rq, r17, tW]
        refine ok_aload_n 24 rfl rfl rfl (ok_aload_n 25 rfl rfl rfl (ok_getI 26 rfl rfl fl_X5_25 (sP hp) rfl (Or.inl rfl) (ok_aload_n 27 rfl rfl rfl (ok_getR 28 rfl rfl fl_X5_9 (sP hp) rfl (ok_iload_n 29 rfl rfl rfl (ok_bipush 30 rfl rfl (by decide) (by decide) (ok_imul 31 rfl rfl (by first | omega | (simp [up_if]; omega) | (simp [up_if] at *; omega)) (ok_aload_n 32 rfl rfl rfl (ok_getR 33 rfl rfl fl_X5_28 (sP hp) rfl (ok_getR 34 rfl rfl fl_X5_66 rfl rfl (ok_iload_n 35 rfl rfl rfl (ok_iald 36 rfl rfl rfl (by first | omega | (simp [up_if]; omega) | (simp [up_if] at *; omega)) (ok_iadd 37 rfl rfl (by first | omega | (simp [up_if]; omega) | (simp [up_if] at *; omega)) (ok_iald 38 rfl rfl (sQ hp) (by first | omega | (simp [up_if]; omega) | (simp [up_if] at *; omega)) (ok_mmin 39 rfl rfl ml_X5_71 ⟨Nat.le_of_ble_eq_true rfl, Nat.le_of_ble_eq_true rfl⟩ (ok_putI 40 rfl rfl fl_X5_25 (sP hp) rfl rfl rfl (ok_inc2 41 rfl rfl rfl (by first | omega | (simp [up_if]; omega) | (simp [up_if] at *; omega)) (ok_goto 42 36 rfl rfl rfl ?_))))))))))))))))))
        rw [cw]
        refine ih (i + 1) _ ⟨by omega, by omega, fr_up g ⟨rfl, rfl⟩, by rw [up_same]; omega, by rw [up_same]; omega, ?_, ?_, fun y => by omega⟩ (by omega)
        · rw [up_same]
          refine up_to (fun k a b => ?_) ?_
          · have := w3 k a b; omega
          · omega
        · intro _
          rw [up_same]
          by_cases y : ρ p 5 ≤ W i (τ 17 i)
          · by_cases y0 : 0 < i
            · obtain ⟨k, a, b, c⟩ := w4 y0
              exact ⟨k, a, by omega, by omega⟩
            · have := w5 (by omega); exact ⟨i, i1, by omega, by omega⟩
          · exact ⟨i, i1, by omega, by omega⟩
    · exfalso; omega
end
section
/-! PARTS, the reference -/
def SC (f : Int → Int) (k b : Int) : Prop := (b = -1 ∧ ∀ q, 0 ≤ q → q < k → f q ≤ 0) ∨ (0 ≤ b ∧ b < k ∧ 1 ≤ f b ∧ ∀ q, 0 ≤ q → q < k → 1 ≤ f q → f b < f q ∨ (f b = f q ∧ b ≤ q))
theorem SC_no {f : Int → Int} {k b : Int} (h : SC f k b) (h1 : f k ≤ 0) : SC f (k + 1) b := by
  rcases h with ⟨q1, q2⟩ | ⟨q1, q2, q3, q4⟩
  · exact Or.inl ⟨q1, lt_ext q2 h1⟩
  · exact Or.inr ⟨q1, by omega, q3, lt_ext q4 (fun y => by omega)⟩
theorem SC_new {f : Int → Int} {k b : Int} (h : SC f k b) (hk : 0 ≤ k) (h1 : 1 ≤ f k) (h2 : b = -1 ∨ f k < f b) : SC f (k + 1) k := by
  refine Or.inr ⟨hk, by omega, h1, lt_ext (fun q a c d => ?_) (fun _ => Or.inr ⟨rfl, Int.le_refl _⟩)⟩
  rcases h with ⟨q1, q2⟩ | ⟨q1, q2, q3, q4⟩
  · have := q2 q a c; omega
  · have := q4 q a c d; left; omega
theorem SC_old {f : Int → Int} {k b : Int} (h : SC f k b) (h1 : b ≠ -1) (h2 : f b ≤ f k) : SC f (k + 1) b := by
  rcases h with ⟨q1, q2⟩ | ⟨q1, q2, q3, q4⟩
  · omega
  · exact Or.inr ⟨q1, by omega, q3, lt_ext q4 (fun y => by omega)⟩
theorem ix_le {n a c i j : Int} (hn : 1 ≤ n ∧ n ≤ 8) (hc : 0 ≤ c ∧ c < n) (hj : 0 ≤ j ∧ j < n) (h : n * a + c ≤ n * i + j) : a < i ∨ (a = i ∧ c ≤ j) := by
  have : n = 1 ∨ n = 2 ∨ n = 3 ∨ n = 4 ∨ n = 5 ∨ n = 6 ∨ n = 7 ∨ n = 8 := by omega
  rcases this with rfl | rfl | rfl | rfl | rfl | rfl | rfl | rfl <;> omega
theorem SC_end {σ : eS} {n b : Int} (hn : 1 ≤ n ∧ n ≤ 8) (en : n = σ 0 22) (h : SC (fun q => σ 9 q) (n * n) b) (hex : ∃ i j, (0 ≤ i ∧ i < n) ∧ (0 ≤ j ∧ j < n) ∧ 1 ≤ wk σ i j) : 0 ≤ b ∧ lstP n (wk σ) (b / n) (b % n) := by
  have wkk : ∀ i j, wk σ i j = σ 9 (n * i + j) := fun i j => by unfold wk; rw [← en]
  rcases h with ⟨q1, q2⟩ | ⟨q1, q2, q3, q4⟩
  · obtain ⟨i, j, a, c, d⟩ := hex
    have g := ix8 (n := n) (i := i) (j := j) ⟨by omega, hn.2⟩ a c
    have := q2 (n * i + j) (by omega) (by omega)
    rw [wkk] at d
    try dsimp only at this
    omega
  · have e1 : n * (b / n) + b % n = b := Int.mul_ediv_add_emod b n
    have e2 := Int.emod_nonneg b (by omega : n ≠ 0)
    have e3 := Int.emod_lt_of_pos b (by omega : 0 < n)
    have e4 : b / n < n := Int.ediv_lt_of_lt_mul (by omega) (by omega)
    have e5 : 0 ≤ b / n := Int.ediv_nonneg q1 (by omega)
    refine ⟨q1, ⟨e5, e4⟩, ⟨e2, e3⟩, by rw [wkk, e1]; exact q3, fun i j x1 x2 x3 x4 x5 => ?_⟩
    have g := ix8 (n := n) (i := i) (j := j) ⟨by omega, hn.2⟩ ⟨x1, x2⟩ ⟨x3, x4⟩
    rw [wkk] at x5
    rw [wkk, wkk, e1]
    rcases q4 (n * i + j) (by omega) (by omega) x5 with y | ⟨y1, y2⟩
    · exact Or.inl y
    · refine Or.inr ⟨y1, ix_le hn ⟨e2, e3⟩ ⟨x3, x4⟩ (by rw [e1]; exact y2)⟩
theorem opB_m {σ : eS} {n l : Int} : ∀ i j, 0 ≤ i → i < n → 0 ≤ j → j < n → (opB σ l (-1) (-1) i j ↔ l ≤ wk σ i j) := fun i j a b c d => ⟨fun q => q.1, fun q => ⟨q, by omega⟩⟩
def Qcs (σ : eS) (r : Int) (σ' : eS) : Prop := fr (fun c _ => c = 10 ∨ c = 11) σ σ' ∧ chS (σ 0 22) (wk σ) r (fun i => σ' 11 i)
theorem t_Mo_choose {σ : eS} {r m : Int} (h : nW σ) (hr : 0 ≤ r ∧ r ≤ 3) (hw : wBd σ) (he : EvW (σ 0 22) (wk σ) m) (hm : 1 ≤ m) : MtV shB M_Mo_choose [vr 0, vi r] σ (fun σ' => Qcs σ r σ') := by
  refine Mt.of okM_Mo_choose (Nat.le_of_ble_eq_true rfl) (fun hk hg => ?_)
  obtain ⟨n, en⟩ : ∃ x, x = σ 0 22 := ⟨_, rfl⟩
  have hn : 1 ≤ n ∧ n ≤ 8 := by rw [en]; exact h
  have hn0 : 0 ≤ n ∧ n ≤ 8 := ⟨by omega, hn.2⟩
  obtain ⟨z1, z2, z3, z4⟩ := bit2 (n := n) (by omega)
  have z4 := z4 hn.1
  obtain ⟨sq1, sq2⟩ := sq8 (n := n) ⟨by omega, by omega⟩
  unfold Qcs
  rw [← en] at he ⊢
  have hwb : ∀ i j, 0 ≤ i → i < n → 0 ≤ j → j < n → 0 ≤ wk σ i j ∧ wk σ i j ≤ 799999992 := fun i j a1 a2 a3 a4 => hw i j a1 (by omega) a3 (by omega)
  have hcp := cpl_pos (σ := σ) hn.1 he hm
  have hc1 := cpl_ev hn.1 he hm
  have hex : ∃ i j, (0 ≤ i ∧ i < n) ∧ (0 ≤ j ∧ j < n) ∧ 1 ≤ wk σ i j := by
    obtain ⟨f, hf, hq⟩ := birk he (by omega) (by omega)
    exact ⟨0, f 0, ⟨by omega, by omega⟩, hf.1 0 (by omega) (by omega), by have := hq 0 (by omega) (by omega); omega⟩
  refine ok_iload_n 0 rfl rfl rfl (ok_if_ne 1 15 rfl rfl rfl (fun h1 => ?_) (fun h1 => ?_))
  · refine ok_iload_n 9 rfl rfl rfl (ok_iconst 10 rfl rfl (by decide) (ok_icmp_ne 11 43 rfl rfl rfl (fun h17 => ?_) (fun h17 => ?_)))
    · refine ok_iload_n 27 rfl rfl rfl (ok_iconst 28 rfl rfl (by decide) (ok_icmp_ne 29 123 rfl rfl rfl (fun h45 => ?_) (fun h45 => ?_)))
      · refine ok_aload_n 75 rfl rfl rfl (ok_iconst 76 rfl rfl (by decide) (ok_callVL (M' := M_Mo_chooseGreatest) (as := [_]) 77 rfl rfl ml_X12_263 (t_Mo_chooseGreatest h hw (by decide) (by rw [← en]; exact hc1)) rfl rfl (Nat.le_of_ble_eq_true rfl) ⟨Nat.le_of_ble_eq_true rfl, Nat.le_of_ble_eq_true rfl⟩ rfl (Nat.le_of_ble_eq_true rfl) (fun τ z hz => ?_)))
        rw [← en] at hz
        obtain ⟨g1, g2, g3, g4, g5, g6⟩ := hz
        have hq : chS n (wk σ) r (fun i => τ 11 i) := Or.inr (Or.inr (Or.inr ⟨by omega, fun k => τ 10 k, g4, g5, g6⟩))
        have hf := g1
        refine ok_pop2 78 rfl rfl (ok_vret 79 rfl rfl rfl ?_)
        exact ⟨rfl, hf, hq⟩
      · refine ok_iconst 30 rfl rfl (by decide) (ok_ist2 31 rfl rfl rfl (ok_iconst 32 rfl rfl (by decide) (ok_ist3 33 rfl rfl rfl ?_)))
        refine lpO2 (fun b k : Int => [some (vr 0), some (vi r), some (vi b), some (vi k)]) (fun _ _ => σ) (fun b k => 0 ≤ k ∧ k ≤ n * n ∧ SC (fun q => σ 9 q) k b) (fun _ k => (n * n - k).toNat) ?_ (-1) 0 ⟨by omega, by omega, Or.inl ⟨rfl, fun q a b => by omega⟩⟩
        rintro b k ⟨i1, i2, i3⟩ ih
        have ib1 : b = -1 ∨ (0 ≤ b ∧ b < k) := by rcases i3 with ⟨q, -⟩ | ⟨q1, q2, -⟩ <;> omega
        refine ok_iload_n 34 rfl rfl rfl (ok_aload_n 35 rfl rfl rfl (ok_getI 36 rfl rfl fl_X12_234 rfl rfl (Or.inl rfl) (ok_aload_n 37 rfl rfl rfl (ok_getI 38 rfl rfl fl_X12_234 rfl rfl (Or.inl rfl) (ok_imul 39 rfl rfl (by rw [← en]; omega) ?_)))))
        rw [← en]
        refine ok_icmp_ge 40 102 rfl rfl rfl (fun h62 => ?_) (fun h62 => ?_)
        · have ek : k = n * n := by omega
          rw [ek] at i3
          obtain ⟨hb, hl⟩ := SC_end hn en i3 hex
          have e3 := hl.1
          have e4 := hl.2.1
          clear ih
          refine ok_aload_n 62 rfl rfl rfl (ok_iconst 63 rfl rfl (by decide) (ok_iload_n 64 rfl rfl rfl (ok_aload_n 65 rfl rfl rfl (ok_getI 66 rfl rfl fl_X12_234 rfl rfl (Or.inl rfl) (ok_idiv 67 rfl rfl (by omega) (by rw [← en]; omega) (ok_iload_n 68 rfl rfl rfl (ok_aload_n 69 rfl rfl rfl (ok_getI 70 rfl rfl fl_X12_234 rfl rfl (Or.inl rfl) (ok_irem 71 rfl rfl (by omega) (by rw [← en]; omega) ?_)))))))))
          rw [← en]
          refine ok_callVI (M' := M_Mo_isChosen) (as := [_, _, _]) 72 rfl rfl ml_X12_260 (s_Mo_isChosen h) rfl rfl (Nat.le_of_ble_eq_true rfl) ⟨Nat.le_of_ble_eq_true rfl, Nat.le_of_ble_eq_true rfl⟩ rfl (Nat.le_of_ble_eq_true rfl) (fun τ z hz => ?_)
          rw [← en] at hz
          have hy := Qch_yes hn hz (cpl_thr hn.1 he hl)
          refine ok_pop 73 rfl rfl rfl (ok_goto 74 129 rfl rfl rfl (ok_vret 79 rfl rfl rfl ?_))
          exact ⟨rfl, hy.1, Or.inr (Or.inr (Or.inl ⟨by omega, b / n, b % n, hl, lex_fst hy.2.1⟩))⟩
        · refine ok_aload_n 41 rfl rfl rfl (ok_getR 42 rfl rfl fl_X12_39 rfl rfl (ok_iload_n 43 rfl rfl rfl (ok_iald 44 rfl rfl rfl (by first | omega | (simp [up_if]; omega) | (simp [up_if] at *; omega)) (ok_if_le 45 96 rfl rfl rfl (fun h71 => ?_) (fun h71 => ?_)))))
          · refine ok_inc3 60 rfl rfl rfl (by first | omega | (simp [up_if]; omega) | (simp [up_if] at *; omega)) (ok_goto 61 52 rfl rfl rfl ?_)
            exact ih b (k + 1) ⟨by omega, by omega, SC_no i3 h71⟩ (by omega)
          · refine ok_iload_n 46 rfl rfl rfl (ok_iconst 47 rfl rfl (by decide) (ok_icmp_eq 48 94 rfl rfl rfl (fun h76 => ?_) (fun h76 => ?_)))
            · refine ok_iload_n 58 rfl rfl rfl (ok_ist2 59 rfl rfl rfl (ok_inc3 60 rfl rfl rfl (by first | omega | (simp [up_if]; omega) | (simp [up_if] at *; omega)) (ok_goto 61 52 rfl rfl rfl ?_)))
              exact ih k (k + 1) ⟨by omega, by omega, SC_new i3 i1 (show 1 ≤ σ 9 k by omega) (Or.inl (by omega))⟩ (by omega)
            · refine ok_aload_n 49 rfl rfl rfl (ok_getR 50 rfl rfl fl_X12_39 rfl rfl (ok_iload_n 51 rfl rfl rfl (ok_iald 52 rfl rfl rfl (by first | omega | (simp [up_if]; omega) | (simp [up_if] at *; omega)) (ok_aload_n 53 rfl rfl rfl (ok_getR 54 rfl rfl fl_X12_39 rfl rfl (ok_iload_n 55 rfl rfl rfl (ok_iald 56 rfl rfl rfl (by first | omega | (simp [up_if]; omega) | (simp [up_if] at *; omega)) (ok_icmp_ge 57 96 rfl rfl rfl (fun h91 => ?_) (fun h91 => ?_)))))))))
              · refine ok_inc3 60 rfl rfl rfl (by first | omega | (simp [up_if]; omega) | (simp [up_if] at *; omega)) (ok_goto 61 52 rfl rfl rfl ?_)
                exact ih b (k + 1) ⟨by omega, by omega, SC_old i3 (by omega) (show σ 9 b ≤ σ 9 k by omega)⟩ (by omega)
              · refine ok_iload_n 58 rfl rfl rfl (ok_ist2 59 rfl rfl rfl (ok_inc3 60 rfl rfl rfl (by first | omega | (simp [up_if]; omega) | (simp [up_if] at *; omega)) (ok_goto 61 52 rfl rfl rfl ?_)))
                exact ih k (k + 1) ⟨by omega, by omega, SC_new i3 i1 (show 1 ≤ σ 9 k by omega) (Or.inr (show σ 9 k < σ 9 b by omega))⟩ (by omega)
    · refine ok_aload_n 12 rfl rfl rfl (ok_iconst 13 rfl rfl (by decide) (ok_iconst 14 rfl rfl (by decide) (ok_callVV (M' := M_Mo_laysCan) (as := [_, _]) 15 rfl rfl ml_X12_256 (s_Mo_laysCan h hw (by decide) (Or.inl rfl)) rfl rfl (Nat.le_of_ble_eq_true rfl) ⟨Nat.le_of_ble_eq_true rfl, Nat.le_of_ble_eq_true rfl⟩ rfl (Nat.le_of_ble_eq_true rfl) (fun τ hq => ?_))))
      rw [← en] at hq
      obtain ⟨q1, q2, q3⟩ := hq
      rw [if_pos rfl] at q2
      have hd : ∀ T, 0 ≤ T → T < p2 n - 1 → dpO n 0 (fun i j => 1 ≤ wk σ i j) (wk σ) (fun k => τ 10 k) T := fun T a b => dpO_of (q3 T a b).1
      obtain ⟨hv, hcl⟩ := wd_ps (v := fun k => τ 10 k) hn (fun i j a b c d => (hwb i j a b c d).1) hc1 q2 hd
      have hv : 1 ≤ τ 10 0 := hv
      have hv2 : τ 10 0 ≤ 799999992 := by
        rcases (q3 0 (by omega) (by omega)).1.2 with q | ⟨j, a1, a2, a3, a4⟩
        · have q5 : τ 10 0 = -1 := q.1
          omega
        · unfold cmbG at a4
          rw [if_pos rfl] at a4
          have := hwb (pc 0) j (by simp [pc]) (by simp [pc]; omega) a1 a2
          have q5 : τ 10 0 = min (wk σ (pc 0) j) (τ 10 (sB 0 j)) := a4
          clear a4
          omega
      have t22 : τ 0 22 = n := by rw [q1 0 22 (by omega), en]
      have twk : wk τ = wk σ := by funext a b; unfold wk; rw [q1 0 22 (by omega), q1 9 _ (by omega)]
      refine ok_aload_n 16 rfl rfl rfl (ok_aload_n 17 rfl rfl rfl (ok_getR 18 rfl rfl fl_X12_42 rfl rfl (ok_iconst 19 rfl rfl (by decide) (ok_lald 20 rfl rfl rfl (by first | omega | (simp [up_if]; omega) | (simp [up_if] at *; omega)) (ok_l2i 21 rfl rfl (by first | omega | (simp [up_if]; omega) | (simp [up_if] at *; omega)) (ok_iconst 22 rfl rfl (by decide) (ok_iconst 23 rfl rfl (by decide) (ok_callVI (M' := M_Mo_isChosen) (as := [_, _, _]) 24 rfl rfl ml_X12_260 (s_Mo_isChosen (h.fr' (by rw [t22, en]))) rfl rfl (Nat.le_of_ble_eq_true rfl) ⟨Nat.le_of_ble_eq_true rfl, Nat.le_of_ble_eq_true rfl⟩ rfl (Nat.le_of_ble_eq_true rfl) (fun τ2 z hz => ?_)))))))))
      rw [t22] at hz
      have hy2 := Qch_yes hn hz (by unfold opB; rw [twk]; exact cpl_mono (fun i j a _ b _ q => ⟨q, by omega⟩) n.toNat 0 (by omega) hcl)
      have hy3 : fstC n (okJ n (fun i j => τ 10 0 ≤ wk σ i j)) (fun i => τ2 11 i) := by
        have y := lex_cg hn0 opB_m (lex_fst hy2.2.1)
        rw [twk] at y
        exact y
      have hq : chS n (wk σ) r (fun i => τ2 11 i) := Or.inr (Or.inl ⟨by omega, τ 10 0, hv, ⟨fun k => τ 10 k, q2, hd, rfl⟩, hy3⟩)
      have hf : fr (fun c _ => c = 10 ∨ c = 11) σ τ2 := fun c k q => by rw [hy2.1 c k q, q1 c k (by omega)]
      clear hy2 hy3 hz hd q3
      refine ok_pop 25 rfl rfl rfl (ok_goto 26 129 rfl rfl rfl (ok_vret 79 rfl rfl rfl ?_))
      exact ⟨rfl, hf, hq⟩
  · refine ok_aload_n 2 rfl rfl rfl (ok_iconst 3 rfl rfl (by decide) (ok_iconst 4 rfl rfl (by decide) (ok_iconst 5 rfl rfl (by decide) (ok_callVI (M' := M_Mo_isChosen) (as := [_, _, _]) 6 rfl rfl ml_X12_260 (s_Mo_isChosen h) rfl rfl (Nat.le_of_ble_eq_true rfl) ⟨Nat.le_of_ble_eq_true rfl, Nat.le_of_ble_eq_true rfl⟩ rfl (Nat.le_of_ble_eq_true rfl) (fun τ z hz => ?_)))))
    rw [← en] at hz
    have hy := Qch_yes hn hz hcp
    have hq : chS n (wk σ) r (fun i => τ 11 i) := Or.inl ⟨by omega, lex_cg hn0 opB_m (lex_fst hy.2.1)⟩
    have hf := hy.1
    clear hy hz
    refine ok_pop 7 rfl rfl rfl (ok_goto 8 129 rfl rfl rfl (ok_vret 79 rfl rfl rfl ?_))
    exact ⟨rfl, hf, hq⟩
def Qst (σ : eS) (r : Int) (σ' : eS) (z : Int) : Prop := fr (fun c _ => c = 9 ∨ c = 10 ∨ c = 11) σ σ' ∧ stp (σ 0 22) r (wk σ) (wk σ') (fun i => σ' 11 i) z
theorem t_Mo_peels {σ : eS} {r m : Int} (h : nW σ) (hr : 0 ≤ r ∧ r ≤ 3) (he : EvW (σ 0 22) (wk σ) m) (hm : 1 ≤ m ∧ m ≤ 799999992) : MtI shB M_Mo_peels [vr 0, vi r] σ (Qst σ r) := by
  refine Mt.of okM_Mo_peels (Nat.le_of_ble_eq_true rfl) (fun hk hg => ?_)
  obtain ⟨n, en⟩ : ∃ x, x = σ 0 22 := ⟨_, rfl⟩
  have hn : 1 ≤ n ∧ n ≤ 8 := by rw [en]; exact h
  obtain ⟨sq1, sq2⟩ := sq8 (n := n) ⟨by omega, by omega⟩
  have hw : wBd σ := fun i j a b c d => ⟨he.1 i j a b c d, Int.le_trans (EvW_bd he ⟨a, b⟩ ⟨c, d⟩) hm.2⟩
  refine ok_aload_n 0 rfl rfl rfl (ok_iload_n 1 rfl rfl rfl (ok_callVV (M' := M_Mo_choose) (as := [_]) 2 rfl rfl ml_X12_267 (t_Mo_choose h hr hw he hm.1) rfl rfl (Nat.le_of_ble_eq_true rfl) ⟨Nat.le_of_ble_eq_true rfl, Nat.le_of_ble_eq_true rfl⟩ rfl (Nat.le_of_ble_eq_true rfl) (fun τ hq => ?_)))
  unfold Qcs at hq
  rw [← en] at hq he
  obtain ⟨f1, hch⟩ := hq
  obtain ⟨hp, hc⟩ := chS_ps hn hch
  have hp : perm n (fun i => τ 11 i) := hp
  have t22 : τ 0 22 = n := by rw [f1 0 22 (by omega), en]
  have tn : nW τ := h.fr' (by rw [t22, en])
  have twk : wk τ = wk σ := by funext a b; unfold wk; rw [f1 0 22 (by omega), f1 9 _ (by omega)]
  have hcb : ∀ i, 0 ≤ i → i < n → 1 ≤ wk σ i (τ 11 i) ∧ wk σ i (τ 11 i) ≤ m := fun i a b => ⟨hc i a b, EvW_bd he ⟨a, b⟩ (hp.1 i a b)⟩
  refine ok_ldcw 3 (799999992) rfl rfl kc_X12_270 (by decide) (ok_ist2 4 rfl rfl rfl (ok_iconst 5 rfl rfl (by decide) (ok_ist3 6 rfl rfl rfl ?_)))
  refine lpO2 (fun w i : Int => [some (vr 0), some (vi r), some (vi w), some (vi i)]) (fun _ _ => τ) (fun w i => 0 ≤ i ∧ i ≤ n ∧ 1 ≤ w ∧ w ≤ 799999992 ∧ (∀ k, 0 ≤ k → k < i → w ≤ wk σ k (τ 11 k)) ∧ (0 < i → ∃ k, 0 ≤ k ∧ k < i ∧ w = wk σ k (τ 11 k)) ∧ (i = 0 → w = 799999992)) (fun _ i => (n - i).toNat) ?_ 799999992 0 ⟨by omega, by omega, by omega, by omega, fun k a b => by omega, fun q => by omega, fun _ => rfl⟩
  rintro w i ⟨i1, i2, i3, i4, i5, i6, i7⟩ ih
  refine ok_iload_n 7 rfl rfl rfl (ok_aload_n 8 rfl rfl rfl (ok_getI 9 rfl rfl fl_X12_234 rfl rfl (Or.inl rfl) (ok_icmp_ge 10 41 rfl rfl rfl (fun h16 => ?_) (fun h16 => ?_))))
  · refine ok_iconst 23 rfl rfl (by decide) (ok_ist3 24 rfl rfl rfl ?_)
    have hxx := i6 (by omega)
    have hin : i = n := by omega
    clear i6 ih
    refine lpO2 (fun (i : Int) (_ : eS) => [some (vr 0), some (vi r), some (vi w), some (vi i)]) (fun _ ρ => ρ) (fun i ρ => 0 ≤ i ∧ i ≤ n ∧ fr (fun c _ => c = 9) τ ρ ∧ ∀ a j, 0 ≤ a → a < n → 0 ≤ j → j < n → ρ 9 (n * a + j) = wk σ a j - (if a < i ∧ j = τ 11 a then w else 0)) (fun i _ => (n - i).toNat) ?_ 0 τ ⟨by omega, by omega, fr.rf, fun a j y1 y2 y3 y4 => ?_⟩
    rotate_left
    · rw [if_neg (by omega), ← twk]
      unfold wk
      rw [t22]
      omega
    clear h16
    rintro k ρ ⟨k1, k2, k3, k4⟩ ih
    have e22 : ρ 0 22 = n := by rw [k3 0 22 (by omega), t22]
    have e11 : ∀ q, ρ 11 q = τ 11 q := fun q => k3 11 q (by omega)
    refine ok_iload_n 25 rfl rfl rfl (ok_aload_n 26 rfl rfl rfl (ok_getI 27 rfl rfl fl_X12_234 rfl rfl (Or.inl rfl) (ok_icmp_ge 28 79 rfl rfl rfl (fun h48 => ?_) (fun h48 => ?_))))
    · refine ok_iload_n 47 rfl rfl rfl (ok_iret 48 rfl rfl rfl ?_)
      have hkn : k = n := by omega
      have hwk : ∀ a j, 0 ≤ a → a < n → 0 ≤ j → j < n → wk ρ a j = wk σ a j - (if j = τ 11 a then w else 0) := fun a j y1 y2 y3 y4 => by
        have e : wk ρ a j = ρ 9 (n * a + j) := by unfold wk; rw [e22]
        rw [e, k4 a j y1 y2 y3 y4]
        by_cases q : j = τ 11 a
        · rw [if_pos q, if_pos ⟨by omega, q⟩]
        · rw [if_neg q, if_neg (fun y => q y.2)]
      have e11' : (fun i => ρ 11 i) = (fun i => τ 11 i) := funext e11
      refine ⟨_, rfl, fun c q z => by rw [k3 c q (by omega), f1 c q (by omega)], ?_⟩
      rw [← en, e11']
      exact ⟨hch, by rw [hin] at hxx; exact hxx, fun i a b => i5 i a (by omega), hwk⟩
    · have hi : 0 ≤ τ 11 k ∧ τ 11 k < n := hp.1 k k1 (by omega)
      have hv := hcb k k1 (by omega)
      have hle := i5 k k1 (by omega)
      obtain ⟨y1, y2, y3, y4⟩ := ix8 (n := n) (i := k) (j := τ 11 k) ⟨by omega, by omega⟩ ⟨by omega, by omega⟩ hi
      have hval := k4 k (τ 11 k) k1 (by omega) hi.1 hi.2
      rw [if_neg (by omega)] at hval
      refine ok_aload_n 29 rfl rfl rfl (ok_getR 30 rfl rfl fl_X12_39 rfl rfl (ok_aload_n 31 rfl rfl rfl (ok_getI 32 rfl rfl fl_X12_234 rfl rfl (Or.inl rfl) (ok_iload_n 33 rfl rfl rfl (ok_imul 34 rfl rfl (by rw [e22]; omega) (ok_aload_n 35 rfl rfl rfl (ok_getR 36 rfl rfl fl_X12_45 rfl rfl (ok_iload_n 37 rfl rfl rfl (ok_iald 38 rfl rfl rfl (by first | omega | (simp [up_if]; omega) | (simp [up_if] at *; omega)) (ok_iadd 39 rfl rfl (by rw [e22, e11]; omega) (ok_dup2 40 rfl rfl ⟨rfl, rfl⟩ (ok_iald 41 rfl rfl rfl (by rw [e22, e11]; omega) (ok_iload_n 42 rfl rfl rfl (ok_isub 43 rfl rfl (by rw [e22, e11]; omega) (ok_iast 44 rfl rfl rfl (by rw [e22, e11]; omega) (ok_inc3 45 rfl rfl rfl (by first | omega | (simp [up_if]; omega) | (simp [up_if] at *; omega)) (ok_goto 46 43 rfl rfl rfl ?_)))))))))))))))))
      rw [e22, e11]
      refine ih (k + 1) _ ⟨by omega, by omega, fr_up k3 rfl, fun a j y1 y2 y3 y4 => ?_⟩ (by omega)
      rw [up_if]
      by_cases q : n * a + j = n * k + τ 11 k
      · obtain ⟨qa, qj⟩ := ix_inj hn ⟨y3, y4⟩ hi q
        rw [if_pos ⟨rfl, q⟩, hval, if_pos ⟨by omega, by rw [qa]; exact qj⟩, qa, qj]
        omega
      · rw [if_neg (fun y => q y.2), k4 a j y1 y2 y3 y4]
        by_cases q2 : a < k ∧ j = τ 11 a
        · rw [if_pos q2, if_pos ⟨by omega, q2.2⟩]
        · rw [if_neg q2, if_neg]
          rintro ⟨y5, y6⟩
          by_cases q3 : a = k
          · exact q (by rw [y6, q3])
          · exact q2 ⟨by omega, y6⟩
  · have hi : 0 ≤ τ 11 i ∧ τ 11 i < n := hp.1 i i1 (by omega)
    have hv := hcb i i1 (by omega)
    refine ok_iload_n 11 rfl rfl rfl (ok_aload_n 12 rfl rfl rfl (ok_iload_n 13 rfl rfl rfl (ok_aload_n 14 rfl rfl rfl (ok_getR 15 rfl rfl fl_X12_45 rfl rfl (ok_iload_n 16 rfl rfl rfl (ok_iald 17 rfl rfl rfl (by first | omega | (simp [up_if]; omega) | (simp [up_if] at *; omega)) (ok_callVI (M' := M_Mo_worked) (as := [_, _]) 18 rfl rfl ml_X12_244 (s_Mo_worked tn (by omega) (by rw [t22]; exact hi)) rfl rfl (Nat.le_of_ble_eq_true rfl) ⟨Nat.le_of_ble_eq_true rfl, Nat.le_of_ble_eq_true rfl⟩ rfl (Nat.le_of_ble_eq_true rfl) (fun σ' z hz => ?_))))))))
    rw [hz.1, hz.2, twk]; clear hz z σ'
    refine ok_mmin 19 rfl rfl ml_X12_271 ⟨Nat.le_of_ble_eq_true rfl, Nat.le_of_ble_eq_true rfl⟩ (ok_ist2 20 rfl rfl rfl (ok_inc3 21 rfl rfl rfl (by first | omega | (simp [up_if]; omega) | (simp [up_if] at *; omega)) (ok_goto 22 11 rfl rfl rfl ?_)))
    refine ih _ (i + 1) ⟨by omega, by omega, by omega, by omega, fun k a b => ?_, fun _ => ?_, fun q => by omega⟩ (by omega)
    · by_cases q : k = i
      · rw [q]; omega
      · have := i5 k a (by omega); omega
    · by_cases q : w ≤ wk σ i (τ 11 i)
      · by_cases q0 : 0 < i
        · obtain ⟨k, a, b, c⟩ := i6 q0
          exact ⟨k, a, by omega, by omega⟩
        · exact ⟨i, i1, by omega, by omega⟩
      · exact ⟨i, i1, by omega, by omega⟩
def QK2 (σ : eS) (r kind m : Int) (σ' : eS) (z : Int) : Prop := QK σ kind m σ' z ∧ PE (σ 0 22) r (wk σ) (fun q => σ' 12 q) (fun q i => σ' 13 (8 * q + i)) z
theorem t_Mo_keepsAll {σ : eS} {r kind m : Int} (h : nW σ) (hr : 0 ≤ r ∧ r ≤ 3) (he : EvW (σ 0 22) (wk σ) m) (hm : 1 ≤ m ∧ m ≤ 799999992) : MtI shB M_Mo_keepsAll [vr 0, vi r, vi kind, vi m] σ (QK2 σ r kind m) := by
  refine Mt.of okM_Mo_keepsAll (Nat.le_of_ble_eq_true rfl) (fun hk hg => ?_)
  obtain ⟨n, en⟩ : ∃ x, x = σ 0 22 := ⟨_, rfl⟩
  have hn : 1 ≤ n ∧ n ≤ 8 := by rw [en]; exact h
  obtain ⟨sq1, sq2⟩ := sq8 (n := n) ⟨by omega, by omega⟩
  have hnp := np2_bd (n := n) ⟨by omega, by omega⟩ (wk σ)
  unfold QK2
  refine ok_aload_n 0 rfl rfl rfl (ok_iconst 1 rfl rfl (by decide) (ok_putI 2 rfl rfl fl_X12_273 rfl rfl rfl rfl (ok_aload_n 3 rfl rfl rfl (ok_aload_n 4 rfl rfl rfl (ok_getI 5 rfl rfl fl_X12_234 rfl rfl (Or.inl rfl) (ok_putI 6 rfl rfl fl_X12_276 rfl rfl rfl rfl (ok_aload_n 7 rfl rfl rfl (ok_iload_n 8 rfl rfl rfl (ok_putI 9 rfl rfl fl_X12_279 rfl rfl rfl rfl (ok_aload_n 10 rfl rfl rfl (ok_iload_n 11 rfl rfl rfl (ok_putI 12 rfl rfl fl_X12_282 rfl rfl rfl rfl ?_))))))))))))
  rw [up_nk _ _ _ _ (by decide)]
  have ew0 : wk (up (up (up (up σ 0 27 0) 0 28 (σ 0 22)) 0 29 m) 0 30 kind) = wk σ := by funext a b; unfold wk; simp [up_if]
  refine lpO2 (fun (_ : Int) (_ : eS) => [some (vr 0), some (vi r), some (vi kind), some (vi m), none]) (fun _ ρ => ρ) (fun x ρ => (fr rgK σ ρ ∧ 0 ≤ x ∧ x ≤ m ∧ EvW n (wk ρ) x ∧ 0 ≤ ρ 0 27 ∧ ρ 0 27 + np2 n (wk ρ) ≤ 64 ∧ ρ 0 28 = n ∧ ρ 0 29 = m ∧ ρ 0 30 = kind ∧ wtK ρ (ρ 0 27) (m - x) ∧ colK ρ (ρ 0 27) n) ∧ Pl n r (wk σ) (fun q => ρ 12 q) (fun q i => ρ 13 (8 * q + i)) (ρ 0 27).toNat (wk ρ)) (fun _ ρ => (64 - ρ 0 27).toNat) ?_ m _ ⟨⟨fr_up (fr_up (fr_up (fr_up fr.rf (by simp [rgK])) (by simp [rgK])) (by simp [rgK])) (by simp [rgK]), by omega, by omega, ?_, by simp [up_if], ?_, by simp [up_if, en], by simp [up_if], by simp [up_if], ?_, ?_⟩, ?_⟩
  rotate_left
  · rw [ew0, en]; exact he
  · rw [ew0]; simp [up_if]; omega
  · refine ⟨fun q a b => ?_, ?_⟩
    · simp [up_if] at b; omega
    · simp [up_if, sm]
  · intro q i a b
    simp [up_if] at b; omega
  · rw [ew0, show up (up (up (up σ 0 27 0) 0 28 (σ 0 22)) 0 29 m) 0 30 kind 0 27 = 0 by simp [up_if]]
    exact ag_rf _ _
  rintro x ρ ⟨⟨i1, i2, i3, i4, i5, i6, i7, i8, i9, iA, iB⟩, iP⟩ ih
  have e22 : ρ 0 22 = n := by rw [i1 0 22 (by simp only [rgK]; omega), en]
  have rn : nW ρ := h.fr' (by rw [e22, en])
  have rnp := np2_bd (n := n) ⟨by omega, by omega⟩ (wk ρ)
  refine ok_aload_n 13 rfl rfl rfl (ok_callVI (M' := M_Mo_isLeft) (as := []) 14 rfl rfl ml_X12_285 (s_Mo_isLeft rn) rfl rfl (Nat.le_of_ble_eq_true rfl) ⟨Nat.le_of_ble_eq_true rfl, Nat.le_of_ble_eq_true rfl⟩ rfl (Nat.le_of_ble_eq_true rfl) (fun σ' z hz => ?_))
  obtain ⟨hs_, hz⟩ := hz
  rw [hs_]; clear hs_ σ'
  rw [e22] at hz
  refine ok_if_eq 15 97 rfl rfl rfl (fun h27 => ?_) (fun h27 => ?_)
  · refine ok_aload_n 52 rfl rfl rfl (ok_getI 53 rfl rfl fl_X12_273 rfl rfl (Or.inl rfl) (ok_iret 54 rfl rfl rfl ?_))
    have hall : ∀ k, 0 ≤ k → k < n * n → ρ 9 k ≤ 0 := by
      rcases hz with q | q
      · omega
      · exact q.2
    have hnil : nil0 n (wk ρ) := fun i j a b c d => by
      have g := ix8 (n := n) (i := i) (j := j) ⟨by omega, by omega⟩ ⟨a, b⟩ ⟨c, d⟩
      unfold wk
      rw [e22]
      exact hall _ (by omega) (by omega)
    have hx0 : x = 0 := by
      rw [← i4.2.1 0 (by omega) (by omega)]
      have := sm_bd (f := fun j => wk ρ 0 j) (B := 0) (by decide) (n := n.toNat) (fun j a b => ⟨i4.1 0 j (by omega) (by omega) a (by omega), hnil 0 j (by omega) (by omega) a (by omega)⟩)
      omega
    have hp1 : 1 ≤ ρ 0 27 := by
      rcases (show ρ 0 27 = 0 ∨ 1 ≤ ρ 0 27 by omega) with q | q
      · have := iA.2
        rw [q] at this
        have : (0 : Int) = m - x := this
        omega
      · exact q
    exact ⟨_, rfl, ⟨i1, rfl, hp1, by omega, by rw [i7, en], i8, i9, by have := iA; rwa [hx0, Int.sub_zero] at this, by rw [← en]; exact iB⟩, i5, wk ρ, by rw [← en]; exact iP, by rw [← en]; exact hnil⟩
  · have hx1 : 1 ≤ x := by
      have hex : ∃ k, 0 ≤ k ∧ k < n * n ∧ 0 < ρ 9 k := by
        rcases hz with q | q
        · exact q.2
        · omega
      obtain ⟨k, a, b, c⟩ := hex
      have g1 := Int.mul_ediv_add_emod k n
      have g2 := Int.emod_nonneg k (by omega : n ≠ 0)
      have g3 := Int.emod_lt_of_pos k (by omega : 0 < n)
      have g4 : k / n < n := Int.ediv_lt_of_lt_mul (by omega) (by omega)
      have g5 : 0 ≤ k / n := Int.ediv_nonneg a (by omega)
      have g6 := EvW_bd i4 ⟨g5, g4⟩ ⟨g2, g3⟩
      unfold wk at g6
      rw [e22, g1] at g6
      omega
    have hnp1 := np2_pos hn i4 hx1
    clear hz
    refine ok_aload_n 16 rfl rfl rfl (ok_getR 17 rfl rfl fl_X12_48 rfl rfl (ok_aload_n 18 rfl rfl rfl (ok_getI 19 rfl rfl fl_X12_273 rfl rfl (Or.inl rfl) (ok_aload_n 20 rfl rfl rfl (ok_iload_n 21 rfl rfl rfl (ok_callVI (M' := M_Mo_peels) (as := [_]) 22 rfl rfl ml_X12_288 (t_Mo_peels rn hr (by rw [e22]; exact i4) ⟨hx1, by omega⟩) rfl rfl (Nat.le_of_ble_eq_true rfl) ⟨Nat.le_of_ble_eq_true rfl, Nat.le_of_ble_eq_true rfl⟩ rfl (Nat.le_of_ble_eq_true rfl) (fun τ z hz => ?_)))))))
    obtain ⟨z3, zS⟩ := hz
    rw [e22] at zS
    obtain ⟨z1, z2, z4, z5⟩ := stp_ev hn i4 zS
    have zp := (chS_ps hn zS.1).1.1
    have t : ∀ k, τ 0 k = ρ 0 k := fun k => z3 0 k (by omega)
    have t12 : ∀ k, τ 12 k = ρ 12 k := fun k => z3 12 k (by omega)
    have t13 : ∀ k, τ 13 k = ρ 13 k := fun k => z3 13 k (by omega)
    refine ok_iast 23 rfl rfl rfl (by first | omega | (simp [up_if]; omega) | (simp [up_if] at *; omega)) (ok_iconst 24 rfl rfl (by decide) (ok_ist4 25 rfl rfl rfl ?_))
    refine lpO2 (fun (i : Int) (_ : eS) => [some (vr 0), some (vi r), some (vi kind), some (vi m), some (vi i)]) (fun _ υ => υ) (fun i υ => 0 ≤ i ∧ i ≤ n ∧ fr (fun c _ => c = 13) (up τ 12 (ρ 0 27) z) υ ∧ (∀ q a, 0 ≤ q → q < ρ 0 27 → 0 ≤ a → a < n → υ 13 (8 * q + a) = ρ 13 (8 * q + a)) ∧ ∀ a, 0 ≤ a → a < i → υ 13 (8 * ρ 0 27 + a) = τ 11 a) (fun i _ => (n - i).toNat) ?_ 0 _ ⟨by omega, by omega, fr.rf, fun q a y1 y2 y3 y4 => by rw [up_ne _ _ _ _ (by decide), t13], fun a b c => by omega⟩
    rintro i υ ⟨k1, k2, k3, k4, k5⟩ ih2
    have v0 : ∀ k, υ 0 k = ρ 0 k := fun k => by rw [k3 0 k (by omega), up_ne _ _ _ _ (by decide), t]
    have v11 : ∀ k, υ 11 k = τ 11 k := fun k => by rw [k3 11 k (by omega), up_ne _ _ _ _ (by decide)]
    have v27 := v0 27
    have v22 := v0 22
    refine ok_iload 26 rfl rfl rfl (ok_aload_n 27 rfl rfl rfl (ok_getI 28 rfl rfl fl_X12_234 rfl rfl (Or.inl rfl) (ok_icmp_ge 29 84 rfl rfl rfl (fun h53 => ?_) (fun h53 => ?_))))
    · refine ok_aload_n 45 rfl rfl rfl (ok_dup 46 rfl rfl rfl (ok_getI 47 rfl rfl fl_X12_273 rfl rfl (Or.inl rfl) (ok_iconst 48 rfl rfl (by decide) (ok_iadd 49 rfl rfl (by first | omega | (simp [up_if]; omega) | (simp [up_if] at *; omega)) (ok_putI 50 rfl rfl fl_X12_273 rfl rfl rfl rfl (ok_goto 51 23 rfl rfl rfl ?_))))))
      rw [v27]
      have w12 : ∀ k, up υ 0 27 (ρ 0 27 + 1) 12 k = if k = ρ 0 27 then z else ρ 12 k := fun k => by
        rw [up_ne _ _ _ _ (by decide), k3 12 k (by omega), up_if]
        by_cases q : k = ρ 0 27
        · rw [if_pos ⟨rfl, q⟩, if_pos q]
        · rw [if_neg (fun y => q y.2), if_neg q, t12]
      have w13 : ∀ k, up υ 0 27 (ρ 0 27 + 1) 13 k = υ 13 k := fun k => up_ne _ _ _ _ (by decide)
      have w9 : ∀ k, up υ 0 27 (ρ 0 27 + 1) 9 k = τ 9 k := fun k => by rw [up_ne _ _ _ _ (by decide), k3 9 k (by omega), up_ne _ _ _ _ (by decide)]
      have wwk : wk (up υ 0 27 (ρ 0 27 + 1)) = wk τ := by
        funext a b
        unfold wk
        rw [w9, up_nk _ _ _ _ (show (22 : Int) ≠ 27 by decide), v22, t]
      have w27 : up υ 0 27 (ρ 0 27 + 1) 0 27 = ρ 0 27 + 1 := up_same _ _ _ _
      refine ok_fg [some (vr 0), some (vi r), some (vi kind), some (vi m), none] ⟨rfl, rfl, rfl, rfl, trivial⟩ (ih (x - z) _ ⟨⟨fr_up (i1.tr (fun c k q => by
        simp only [rgK] at q
        rw [k3 c k (by omega), up_ne _ _ _ _ (by omega), z3 c k (by omega)])) (by simp [rgK]), by omega, by omega, by rw [wwk]; exact z4, by rw [w27]; omega, by rw [w27, wwk]; omega, by rw [up_nk _ _ _ _ (by decide), v0]; exact i7, by rw [up_nk _ _ _ _ (by decide), v0]; exact i8, by rw [up_nk _ _ _ _ (by decide), v0]; exact i9, ?_, ?_⟩, ?_⟩ (by rw [w27]; omega))
      · rw [w27]
        refine ⟨fun q a b => ?_, ?_⟩
        · rw [w12]
          split
          · exact z1
          · exact iA.1 q a (by omega)
        · rw [sm_s _ i5, w12, if_pos rfl]
          have e : sm (fun q => up υ 0 27 (ρ 0 27 + 1) 12 q) (ρ 0 27).toNat = sm (fun q => ρ 12 q) (ρ 0 27).toNat := sm_cg (fun k a b => by rw [w12, if_neg (by omega)])
          rw [e, iA.2]
          omega
      · rw [w27]
        intro q a y1 y2 y3 y4
        rw [w13]
        by_cases hq : q = ρ 0 27
        · rw [hq, k5 a y3 (by omega)]; exact zp a y3 y4
        · rw [k4 q a y1 (by omega) y3 y4]; exact iB q a y1 (by omega) y3 y4
      · rw [w27, wwk, show (ρ 0 27 + 1).toNat = (ρ 0 27).toNat + 1 by omega]
        have ec : (((ρ 0 27).toNat : Nat) : Int) = ρ 0 27 := Int.toNat_of_nonneg i5
        refine ⟨wk ρ, Pl_cg (fun q a b => ⟨?_, fun i c d => ?_⟩) (ag_rf _ _) iP, ?_⟩
        · try dsimp only
          rw [w12, if_neg (by omega)]
        · try dsimp only
          rw [w13, k4 q i a (by omega) c d]
        · rw [ec]
          (try dsimp only)
          rw [w12, if_pos rfl]
          refine stp_cc (fun i c d => ?_) (ag_rf _ _) zS
          try dsimp only
          rw [w13, k5 i c (by omega)]
    · refine ok_aload_n 30 rfl rfl rfl (ok_getR 31 rfl rfl fl_X12_51 rfl rfl (ok_bipush 32 rfl rfl (by decide) (by decide) (ok_aload_n 33 rfl rfl rfl (ok_getI 34 rfl rfl fl_X12_273 rfl rfl (Or.inl rfl) (ok_imul 35 rfl rfl (by first | omega | (simp [up_if]; omega) | (simp [up_if] at *; omega)) (ok_iload 36 rfl rfl rfl (ok_iadd 37 rfl rfl (by first | omega | (simp [up_if]; omega) | (simp [up_if] at *; omega)) (ok_aload_n 38 rfl rfl rfl (ok_getR 39 rfl rfl fl_X12_45 rfl rfl (ok_iload 40 rfl rfl rfl (ok_iald 41 rfl rfl rfl (by first | omega | (simp [up_if]; omega) | (simp [up_if] at *; omega)) (ok_iast 42 rfl rfl rfl (by first | omega | (simp [up_if]; omega) | (simp [up_if] at *; omega)) (ok_inc4 43 rfl rfl rfl (by first | omega | (simp [up_if]; omega) | (simp [up_if] at *; omega)) (ok_goto 44 47 rfl rfl rfl ?_))))))))))))))
      rw [v11, v27]
      refine ih2 (i + 1) _ ⟨by omega, by omega, fr_up k3 rfl, fun q a y1 y2 y3 y4 => ?_, fun a b c => ?_⟩ (by omega)
      · rw [up_nk _ _ _ _ (by omega)]; exact k4 q a y1 y2 y3 y4
      · rw [up_if]
        by_cases q : a = i
        · rw [if_pos ⟨rfl, by rw [q]⟩, q]
        · rw [if_neg (by omega)]; exact k5 a b (by omega)
end
section
/-! PARTS kept, the class: keepParts, peel and shop -/
theorem t_Mi_add {σ : eS} {w : Int} (hs : 0 ≤ σ 22 5 ∧ σ 22 5 < 64) (hw : 1 ≤ w) : MtV shA M_Mi_add [vr 22, vi w, vr 17] σ (fun σ' => fr rgMi σ σ' ∧ σ' 22 5 = σ 22 5 + 1 ∧ (∀ k, σ' 23 k = if k = σ 22 5 then w else σ 23 k) ∧ ∀ k, σ' 24 k = if σ 22 5 * 8 ≤ k ∧ k < σ 22 5 * 8 + 8 then σ 17 (k - σ 22 5 * 8) else σ 24 k) := by
  refine Mt.of okM_Mi_add (Nat.le_of_ble_eq_true rfl) (fun hk hg => ?_)
  refine ok_iload_n 0 rfl rfl rfl (ok_iconst 1 rfl rfl (by decide) (ok_icmp_lt 2 14 rfl rfl rfl (fun h2 => ?_) (fun h2 => ?_)))
  · exfalso; omega
  · refine ok_aload_n 3 rfl rfl rfl (ok_getI 4 rfl rfl fl_X3_28 rfl rfl (Or.inl rfl) (ok_bipush 5 rfl rfl (by decide) (by decide) (ok_icmp_lt 6 15 rfl rfl rfl (fun h11 => ?_) (fun h11 => ?_))))
    · refine ok_aload_n 8 rfl rfl rfl (ok_getR 9 rfl rfl fl_X3_9 rfl rfl (ok_aload_n 10 rfl rfl rfl (ok_getI 11 rfl rfl fl_X3_28 rfl rfl (Or.inl rfl) (ok_iload_n 12 rfl rfl rfl (ok_iast 13 rfl rfl rfl (by first | omega | (simp [up_if]; omega) | (simp [up_if] at *; omega)) (ok_aload_n 14 rfl rfl rfl (ok_iconst 15 rfl rfl (by decide) (ok_aload_n 16 rfl rfl rfl (ok_getR 17 rfl rfl fl_X3_15 rfl rfl (ok_aload_n 18 rfl rfl rfl (ok_getI 19 rfl rfl fl_X3_28 rfl rfl (Or.inl rfl) (ok_bipush 20 rfl rfl (by decide) (by decide) (ok_imul 21 rfl rfl (by first | omega | (simp [up_if]; omega) | (simp [up_if] at *; omega)) (ok_bipush 22 rfl rfl (by decide) (by decide) (ok_copy 23 rfl rfl (wd3 175 rfl rfl) ⟨Nat.le_of_ble_eq_true rfl, Nat.le_of_ble_eq_true rfl⟩ rfl rfl (by decide) (by simp [up_if]; omega) (by decide) (by decide) (by simp [up_if]; omega) ?_)))))))))))))))
      obtain ⟨τ, eτ⟩ : ∃ τ, τ = cp (up σ 23 (σ 22 5) w) 17 0 24 (up σ 23 (σ 22 5) w 22 5 * 8) 8 := ⟨_, rfl⟩
      rw [← eτ]
      have e0 : up σ 23 (σ 22 5) w 22 5 = σ 22 5 := up_ne _ _ _ _ (by decide)
      rw [e0] at eτ
      have f : fr rgMi σ τ := by rw [eτ]; exact (fr_up (P := rgMi) fr.rf (by simp [rgMi])).tr (fr_cp (fun k _ _ => by simp [rgMi]))
      have e22 : ∀ k, τ 22 k = σ 22 k := fun k => by rw [eτ]; unfold cp; rw [if_neg (by omega), up_ne _ _ _ _ (by decide)]
      have e23 : ∀ k, τ 23 k = if k = σ 22 5 then w else σ 23 k := fun k => by
        rw [eτ]
        unfold cp
        rw [if_neg (by omega), up_if]
        by_cases q : k = σ 22 5
        · rw [if_pos ⟨rfl, q⟩, if_pos q]
        · rw [if_neg (fun y => q y.2), if_neg q]
      have e24 : ∀ k, τ 24 k = if σ 22 5 * 8 ≤ k ∧ k < σ 22 5 * 8 + 8 then σ 17 (k - σ 22 5 * 8) else σ 24 k := fun k => by
        rw [eτ]
        unfold cp
        by_cases q : σ 22 5 * 8 ≤ k ∧ k < σ 22 5 * 8 + 8
        · rw [if_pos ⟨rfl, q.1, q.2⟩, if_pos q, up_ne _ _ _ _ (by decide)]; congr 1; omega
        · rw [if_neg (fun y => q ⟨y.2.1, y.2.2⟩), if_neg q, up_ne _ _ _ _ (by decide)]
      have e225 := e22 5
      refine ok_aload_n 24 rfl rfl rfl (ok_dup 25 rfl rfl rfl (ok_getI 26 rfl rfl fl_X3_28 rfl rfl (Or.inl rfl) (ok_iconst 27 rfl rfl (by decide) (ok_iadd 28 rfl rfl (by first | omega | (simp [up_if]; omega) | (simp [up_if] at *; omega)) (ok_putI 29 rfl rfl fl_X3_28 rfl rfl rfl rfl (ok_vret 30 rfl rfl rfl ?_))))))
      refine ⟨rfl, fr_up f (by simp [rgMi]), by rw [up_same, e22], fun k => by rw [up_ne _ _ _ _ (by decide)]; exact e23 k, fun k => by rw [up_ne _ _ _ _ (by decide)]; exact e24 k⟩
    · exfalso; omega
abbrev rgKq : Nat → Int → Prop := fun c k => (16 ≤ c ∧ c ≤ 21) ∨ (c = 22 ∧ k = 5) ∨ c = 23 ∨ c = 24
def QKp (n r : Int) (σ σ' : eS) (z : Int) : Prop := fr rgKq σ σ' ∧ iCh σ' ∧ cSe σ σ' 64 ∧ iMi σ' ∧ z = σ' 22 5 ∧ PE n r (pk σ 21) (fun q => σ' 23 q) (fun q i => σ' 24 (8 * q + i)) z
/-- what stands between two parts -/
def KP (n r m : Int) (σ ρ : eS) (k : Int) : Prop := (0 ≤ k ∧ k ≤ 64 ∧ ρ 22 5 = k) ∧ fr rgKq σ ρ ∧ iCh ρ ∧ cSe σ ρ k ∧ (ρ 20 2 = n ∧ bd64 ρ 21 ∧ 0 ≤ ρ 20 3 ∧ ρ 20 3 ≤ m) ∧ EvW n (pk ρ 21) (ρ 20 3) ∧ k + np2 n (pk ρ 21) ≤ 64 ∧ iMi ρ ∧ sm (fun q => ρ 23 q) k.toNat = m - ρ 20 3 ∧ Pl n r (pk σ 21) (fun q => ρ 23 q) (fun q i => ρ 24 (8 * q + i)) k.toNat (pk ρ 21)
theorem t_Ev_keepParts {σ : eS} {n r m : Int} (hr : 0 ≤ r ∧ r ≤ 3) (hn : 1 ≤ n ∧ n ≤ 8) (hC : iCh σ) (hS : iSe σ) (hS2 : σ 16 3 + 64 < 2147483647) (h2 : σ 20 2 = n) (hb : bd64 σ 21) (h3 : σ 20 3 = m) (hm : 1 ≤ m ∧ m ≤ 799999992) (he : EvW n (pk σ 21) m) (hM : iMi σ) (h5 : σ 22 5 = 0) (h6 : σ 22 6 = m) : MtI shA M_Ev_keepParts [vr 0, vi r] σ (QKp n r σ) := by
  refine Mt.of okM_Ev_keepParts (Nat.le_of_ble_eq_true rfl) (fun hk hg => ?_)
  have n0 : 0 ≤ n ∧ n ≤ 8 := ⟨by omega, hn.2⟩
  have hnp := np2_bd n0 (pk σ 21)
  refine ok_iconst 0 rfl rfl (by decide) (ok_ist2 1 rfl rfl rfl ?_)
  refine lpO2 (fun (k : Int) (_ : eS) => [some (vr 0), some (vi r), some (vi k)]) (fun _ ρ => ρ) (fun k ρ => KP n r m σ ρ k) (fun k _ => (64 - k).toNat) ?_ 0 σ ⟨⟨by omega, by omega, h5⟩, fr.rf, hC, ⟨hS, by omega, by omega⟩, ⟨h2, hb, by omega, by omega⟩, by rw [h3]; exact he, by omega, hM, by rw [h3]; show (0 : Int) = m - m; omega, ag_rf _ _⟩
  rintro k ρ ⟨⟨k1, k2, k3⟩, f, c1, ⟨s1, s2, s3⟩, ⟨c2, c3, c4, c5⟩, c6, c7, c8, c9, cP⟩ ih
  have fin : k = 64 ∨ ρ 20 3 ≤ 0 → nil0 n (pk ρ 21) := fun q => by
    by_cases y : 1 ≤ ρ 20 3
    · have := np2_pos hn c6 y
      omega
    · rw [show ρ 20 3 = 0 by omega] at c6
      exact EvW_0 c6
  refine ok_iload_n 2 rfl rfl rfl (ok_bipush 3 rfl rfl (by decide) (by decide) (ok_icmp_ge 4 53 rfl rfl rfl (fun h5 => ?_) (fun h5 => ?_)))
  · refine ok_aload_n 24 rfl rfl rfl (ok_getR 25 rfl rfl fl_X11_48 rfl rfl (ok_getI 26 rfl rfl fl_X11_318 rfl rfl (Or.inl rfl) (ok_iret 27 rfl rfl rfl ?_)))
    have e5 : ρ 22 5 = k := k3
    exact ⟨_, rfl, f, c1, ⟨s1, s2, by omega⟩, c8, rfl, by omega, pk ρ 21, by rw [k3]; exact cP, fin (by omega)⟩
  · refine ok_aload_n 5 rfl rfl rfl (ok_getR 6 rfl rfl fl_X11_41 rfl rfl (ok_getI 7 rfl rfl fl_X11_297 rfl rfl (Or.inl rfl) (ok_if_le 8 53 rfl rfl rfl (fun h15 => ?_) (fun h15 => ?_))))
    · refine ok_aload_n 24 rfl rfl rfl (ok_getR 25 rfl rfl fl_X11_48 rfl rfl (ok_getI 26 rfl rfl fl_X11_318 rfl rfl (Or.inl rfl) (ok_iret 27 rfl rfl rfl ?_)))
      have e5 : ρ 22 5 = k := k3
      exact ⟨_, rfl, f, c1, ⟨s1, s2, by omega⟩, c8, rfl, by omega, pk ρ 21, by rw [k3]; exact cP, fin (by omega)⟩
    · refine ok_aload_n 9 rfl rfl rfl (ok_getR 10 rfl rfl fl_X11_41 rfl rfl (ok_iload_n 11 rfl rfl rfl (ok_callVV (M' := M_Pe_takePart) (as := [_]) 12 rfl rfl ml_X11_325 (t_Pe_takePart (p := 20) (q := 21) (m := ρ 20 3) (Or.inl ⟨rfl, rfl⟩) hr (by rw [c2]; exact hn) c3 rfl ⟨by omega, by omega⟩ (by rw [c2]; exact c6) c1 s1 (by omega)) rfl rfl (Nat.le_of_ble_eq_true rfl) ⟨Nat.le_of_ble_eq_true rfl, Nat.le_of_ble_eq_true rfl⟩ rfl (Nat.le_of_ble_eq_true rfl) (fun τ g => ?_))))
      obtain ⟨g1, g2, ⟨g3, g4, g5⟩, g6, g7, g8, g9⟩ := g
      rw [c2] at g9
      obtain ⟨w1, w2, w3, w4⟩ := stp_ev hn c6 g9
      have t5 : τ 22 5 = k := by rw [g1 22 5 (by simp [rgPe]), k3]
      refine ok_aload_n 13 rfl rfl rfl (ok_getR 14 rfl rfl fl_X11_48 rfl rfl (ok_aload_n 15 rfl rfl rfl (ok_getR 16 rfl rfl fl_X11_41 rfl rfl (ok_getI 17 rfl rfl fl_X11_328 rfl rfl (Or.inl rfl) (ok_aload_n 18 rfl rfl rfl (ok_getR 19 rfl rfl fl_X11_32 rfl rfl (ok_getR 20 rfl rfl fl_X11_227 rfl rfl (ok_callVV (M' := M_Mi_add) (as := [_, _]) 21 rfl rfl ml_X11_331 (t_Mi_add (by omega) w1) rfl rfl (Nat.le_of_ble_eq_true rfl) ⟨Nat.le_of_ble_eq_true rfl, Nat.le_of_ble_eq_true rfl⟩ rfl (Nat.le_of_ble_eq_true rfl) (fun υ u => ?_)))))))))
      obtain ⟨u1, u2, u3, u4⟩ := u
      rw [t5] at u2 u3 u4
      have t6 : υ 22 6 = m := by rw [u1 22 6 (by simp [rgMi]), g1 22 6 (by simp [rgPe]), f 22 6 (by simp [rgKq]), h6]
      refine ok_inc2 22 rfl rfl rfl (by first | omega | (simp [up_if]; omega) | (simp [up_if] at *; omega)) (ok_goto 23 2 rfl rfl rfl ?_)
      have v20 : ∀ k, υ 20 k = τ 20 k := fun k => u1 20 k (by simp [rgMi])
      have v21 : pk υ 21 = pk τ 21 := by funext i j; exact u1 21 _ (by simp [rgMi])
      have v16 : υ 16 3 = τ 16 3 := u1 16 3 (by simp [rgMi])
      have v23 : ∀ q, q ≠ k → υ 23 q = ρ 23 q := fun q y => by rw [u3, if_neg y, g1 23 q (by simp [rgPe])]
      have v23k : υ 23 k = τ 20 5 := by rw [u3, if_pos rfl]
      have v24 : ∀ q, ¬ (k * 8 ≤ q ∧ q < k * 8 + 8) → υ 24 q = ρ 24 q := fun q y => by rw [u4, if_neg y, g1 24 q (by simp [rgPe])]
      have v24k : ∀ i, 0 ≤ i → i < 8 → υ 24 (8 * k + i) = τ 17 i := fun i a b => by rw [u4, if_pos (by omega)]; congr 1; omega
      have vs : sm (fun q => υ 23 q) (k + 1).toNat = m - (ρ 20 3 - τ 20 5) := by
        rw [sm_s _ k1, v23k, sm_cg (g := fun q => ρ 23 q) (fun q a b => v23 q (by omega)), c9]
        omega
      obtain ⟨d1, d2, d3, d4⟩ := c8
      have vM : iMi υ := by
        refine ⟨?_, fun q a b => ?_, fun q a b => ?_, ?_⟩
        · rw [u2, t6, u1 22 4 (by simp [rgMi]), g1 22 4 (by simp [rgPe]), u1 22 3 (by simp [rgMi]), g1 22 3 (by simp [rgPe])]
          omega
        · rw [u2] at b
          by_cases y : q = k
          · rw [y, v23k]; omega
          · rw [v23 q y]; exact d2 q a (by omega)
        · by_cases y : k * 8 ≤ q ∧ q < k * 8 + 8
          · rw [u4, if_pos y]; exact g2 _ (by omega) (by omega)
          · rw [v24 q y]; exact d3 q a b
        · rw [u2, t6, vs]; omega
      refine ih (k + 1) υ ⟨⟨by omega, by omega, u2⟩, ?_, iCh_cg g2 (fun k => u1 17 k (by simp [rgMi])), ⟨iSe_cg g3 v16 (fun k => u1 19 k (by simp [rgMi])), by omega, by omega⟩, ⟨by rw [v20, g1 20 2 (by simp [rgPe])]; exact c2, fun q a b => by rw [u1 21 q (by simp [rgMi])]; exact g6 q a b, by rw [v20]; omega, by rw [v20]; omega⟩, by rw [v21, v20, g7]; exact w3, by rw [v21]; omega, vM, by rw [v20, vs, g7], ?_⟩ (by omega)
      · exact (f.tr (g1.mono (fun c k w => by simp only [rgPe, rgKq] at w ⊢; omega))).tr (u1.mono (fun c k w => by simp only [rgMi, rgKq] at w ⊢; omega))
      · rw [v21, show (k + 1).toNat = k.toNat + 1 by omega]
        have ec : ((k.toNat : Nat) : Int) = k := Int.toNat_of_nonneg k1
        refine ⟨pk ρ 21, Pl_cg (fun q a b => ⟨?_, fun i c d => ?_⟩) (ag_rf _ _) cP, ?_⟩
        · try dsimp only
          exact v23 q (by omega)
        · try dsimp only
          exact v24 _ (by omega)
        · rw [ec]
          (try dsimp only)
          rw [v23k]
          exact stp_cc (fun i c d => v24k i c (by omega)) (ag_rf _ _) g9
/-- a table to take parts off -/
theorem t_Pe_startTable {σ : eS} {p q t : Nat} (hp : pP p q) (ht : tA t) : MtV shA M_Pe_startTable [vr p, vr t] σ (fun σ' => fr (rgP0 p q) σ σ' ∧ σ' p 2 = σ t 1 ∧ σ' p 3 = σ t 3 ∧ σ' p 4 = 0 ∧ ∀ k, 0 ≤ k → k < 64 → σ' q k = σ (t + 4) k) := by
  refine Mt.of okM_Pe_startTable (Nat.le_of_ble_eq_true rfl) (fun hk hg => ?_)
  obtain ⟨n0, n1, n2, n3, n4⟩ := pP_n hp
  have nA := tA_10 ht
  obtain ⟨τ, eτ⟩ : ∃ τ, τ = cp σ (t + 4) 0 q 0 64 := ⟨_, rfl⟩
  have f : fr (fun c _ => c = q) σ τ := by rw [eτ]; exact fr_cp (fun k _ _ => rfl)
  have e : ∀ k, 0 ≤ k → k < 64 → τ q k = σ (t + 4) k := fun k a b => by rw [eτ]; unfold cp; rw [if_pos ⟨rfl, by omega, by omega⟩]; congr 1; omega
  have e1 : τ t 1 = σ t 1 := f t 1 (by omega)
  have e3 : τ t 3 = σ t 3 := f t 3 (by omega)
  refine ok_aload_n 0 rfl rfl rfl (ok_getR 1 rfl rfl fl_X5_32 (sT ht) rfl (ok_iconst 2 rfl rfl (by decide) (ok_aload_n 3 rfl rfl rfl (ok_getR 4 rfl rfl fl_X5_9 (sP hp) rfl (ok_iconst 5 rfl rfl (by decide) (ok_bipush 6 rfl rfl (by decide) (by decide) (ok_copy 7 rfl rfl (wd3 104 rfl rfl) ⟨Nat.le_of_ble_eq_true rfl, Nat.le_of_ble_eq_true rfl⟩ (sC ht) (sQ hp) (by decide) (by decide) (by decide) (by decide) (by decide) ?_)))))))
  rw [← eτ]
  refine ok_aload_n 8 rfl rfl rfl (ok_aload_n 9 rfl rfl rfl (ok_getI 10 rfl rfl fl_X5_41 (sT ht) rfl (Or.inl rfl) (ok_putI 11 rfl rfl fl_X5_15 (sP hp) rfl rfl rfl (ok_aload_n 12 rfl rfl rfl (ok_aload_n 13 rfl rfl rfl (ok_getI 14 rfl rfl fl_X5_42 (sT ht) rfl (Or.inl rfl) (ok_putI 15 rfl rfl fl_X5_19 (sP hp) rfl rfl rfl (ok_aload_n 16 rfl rfl rfl (ok_iconst 17 rfl rfl (by decide) (ok_putI 18 rfl rfl fl_X5_22 (sP hp) rfl rfl rfl (ok_vret 19 rfl rfl rfl ?_)))))))))))
  refine ⟨rfl, fr_up (fr_up (fr_up (f.mono (fun c k w => Or.inr w)) (by simp [rgP0])) (by simp [rgP0])) (by simp [rgP0]), ?_, ?_, ?_, fun k a b => ?_⟩
  · rw [up_nk _ _ _ _ (by decide), up_nk _ _ _ _ (by decide), up_same, e1]
  · rw [up_nk _ _ _ _ (by decide), up_same, up_ne _ _ _ _ (by omega), e3]
  · rw [up_same]
  · rw [up_ne _ _ _ _ (Ne.symm n1), up_ne _ _ _ _ (Ne.symm n1), up_ne _ _ _ _ (Ne.symm n1), e k a b]
/-- the greatest of the sums -/
def grS (row col : Int → Int) (n L : Int) : Prop := (∀ k, 0 ≤ k → k < n → row k ≤ L ∧ col k ≤ L) ∧ (L = 0 ∨ ∃ k, 0 ≤ k ∧ k < n ∧ (L = row k ∨ L = col k))
theorem grS_un {row col row' col' : Int → Int} {n L L' : Int} (hn : 1 ≤ n) (h0 : ∀ k, 0 ≤ k → k < n → 0 ≤ row k ∧ 0 ≤ col k) (e : ∀ k, 0 ≤ k → k < n → row k = row' k ∧ col k = col' k) (h : grS row col n L) (h' : grS row' col' n L') : L = L' := by
  have key : ∀ {row col row' col' : Int → Int} {L L' : Int}, (∀ k, 0 ≤ k → k < n → 0 ≤ row' k ∧ 0 ≤ col' k) → (∀ k, 0 ≤ k → k < n → row k = row' k ∧ col k = col' k) → grS row col n L → grS row' col' n L' → L ≤ L' := fun h0 e h h' => by
    rcases h.2 with q | ⟨k, a, b, c⟩
    · have x := h'.1 0 (by omega) (by omega)
      have y := h0 0 (by omega) (by omega)
      omega
    · have x := h'.1 k a b
      have y := e k a b
      omega
  have h0' : ∀ k, 0 ≤ k → k < n → 0 ≤ row' k ∧ 0 ≤ col' k := fun k a b => by have := h0 k a b; have := e k a b; omega
  have a := key h0' e h h'
  have b := key h0 (fun k a b => ⟨(e k a b).1.symm, (e k a b).2.symm⟩) h' h
  omega
theorem grS_s {row col : Int → Int} {i v x : Int} (hi : 0 ≤ i) (h : v = 0 ∨ ∃ k, 0 ≤ k ∧ k < i ∧ (v = row k ∨ v = col k)) (hx : x = v ∨ x = row i ∨ x = col i) : x = 0 ∨ ∃ k, 0 ≤ k ∧ k < i + 1 ∧ (x = row k ∨ x = col k) := by
  rcases hx with q | q
  · rw [q]
    rcases h with y | ⟨k, a, b, c⟩
    · exact Or.inl y
    · exact Or.inr ⟨k, a, by omega, c⟩
  · exact Or.inr ⟨i, hi, by omega, q⟩
theorem t_Ta_greatestSum {σ : eS} {t : Nat} (ht : tA t) (hT : iT σ t) : MtI shA M_Ta_greatestSum [vr t] σ (fun σ' z => σ' = σ ∧ 0 ≤ z ∧ z ≤ 799999992 ∧ grS (rowT σ t) (colT σ t) (σ t 1) z) := by
  refine Mt.of okM_Ta_greatestSum (Nat.le_of_ble_eq_true rfl) (fun hk hg => ?_)
  have hn := hT.1
  have hn2 := hT.2.1
  refine ok_iconst 0 rfl rfl (by decide) (ok_ist1 1 rfl rfl rfl (ok_iconst 2 rfl rfl (by decide) (ok_ist2 3 rfl rfl rfl ?_)))
  refine lpO2 (fun v i : Int => [some (vr t), some (vi v), some (vi i)]) (fun _ _ => σ) (fun v i => 0 ≤ i ∧ i ≤ σ t 1 ∧ 0 ≤ v ∧ v ≤ 799999992 ∧ grS (rowT σ t) (colT σ t) i v) (fun _ i => (8 - i).toNat) ?_ 0 0 ⟨by omega, by omega, by omega, by omega, fun k a b => by omega, Or.inl rfl⟩
  rintro v i ⟨i1, i2, v1, v2, vm, vx⟩ ih
  refine ok_iload_n 4 rfl rfl rfl (ok_aload_n 5 rfl rfl rfl (ok_getI 6 rfl rfl fl_X9_15 (sT ht) rfl (Or.inl rfl) (ok_icmp_ge 7 36 rfl rfl rfl (fun h9 => ?_) (fun h9 => ?_))))
  · refine ok_iload_n 20 rfl rfl rfl (ok_iret 21 rfl rfl rfl ?_)
    exact ⟨_, rfl, rfl, v1, v2, by rw [show σ t 1 = i by omega]; exact ⟨vm, vx⟩⟩
  · have rb := rowT_bd hT (i := i) ⟨i1, by omega⟩
    have cb := colT_bd hT (i := i) ⟨i1, by omega⟩
    refine ok_iload_n 8 rfl rfl rfl (ok_aload_n 9 rfl rfl rfl (ok_iload_n 10 rfl rfl rfl (ok_callVI (M' := M_Ta_sumOfRow) (as := [_]) 11 rfl rfl ml_X9_52 (s_Ta_sumOfRow ht hT ⟨by omega, by omega⟩) (sT ht) rfl (Nat.le_of_ble_eq_true rfl) ⟨Nat.le_of_ble_eq_true rfl, Nat.le_of_ble_eq_true rfl⟩ rfl (Nat.le_of_ble_eq_true rfl) (fun σ' z hz => ?_))))
    rw [hz.1, hz.2]
    clear hz z σ'
    refine ok_aload_n 12 rfl rfl rfl (ok_iload_n 13 rfl rfl rfl (ok_callVI (M' := M_Ta_sumOfColumn) (as := [_]) 14 rfl rfl ml_X9_62 (s_Ta_sumOfColumn ht hT ⟨by omega, by omega⟩) (sT ht) rfl (Nat.le_of_ble_eq_true rfl) ⟨Nat.le_of_ble_eq_true rfl, Nat.le_of_ble_eq_true rfl⟩ rfl (Nat.le_of_ble_eq_true rfl) (fun σ' z hz => ?_)))
    rw [hz.1, hz.2]
    clear hz z σ'
    refine ok_mmax 15 rfl rfl ml_X9_42 ⟨Nat.le_of_ble_eq_true rfl, Nat.le_of_ble_eq_true rfl⟩ (ok_mmax 16 rfl rfl ml_X9_42 ⟨Nat.le_of_ble_eq_true rfl, Nat.le_of_ble_eq_true rfl⟩ (ok_ist1 17 rfl rfl rfl (ok_inc2 18 rfl rfl rfl (by first | omega | (simp [up_if]; omega) | (simp [up_if] at *; omega)) (ok_goto 19 4 rfl rfl rfl ?_))))
    refine ih _ (i + 1) ⟨by omega, by omega, by omega, by omega, lt_ext (fun k a b => ?_) (by omega), grS_s i1 vx (by omega)⟩ (by omega)
    have := vm k a b
    omega
theorem pk_up {σ : eS} {q : Nat} {x a b z a' b' : Int} (hx : x = a * 8 + b) (hb : 0 ≤ b ∧ b < 8) (hb' : 0 ≤ b' ∧ b' < 8) : up σ q x z q (a' * 8 + b') = if a' = a ∧ b' = b then z else σ q (a' * 8 + b') := by
  rw [up_if]
  by_cases y : a' = a ∧ b' = b
  · rw [if_pos y, if_pos ⟨rfl, by rw [y.1, y.2, hx]⟩]
  · rw [if_neg y, if_neg (fun w => y (by omega))]
theorem bd_up {σ : eS} {q : Nat} {x z : Int} (h : bd64 σ q) (hz : 0 ≤ z ∧ z ≤ 799999992) : bd64 (up σ q x z) q := fun k a b => by
  rw [up_if]
  by_cases y : k = x
  · rw [if_pos ⟨rfl, y⟩]; exact hz
  · rw [if_neg (fun w => y w.2)]; exact h k a b
def shW (σ : eS) (t : Nat) (L : Int) : Int → Int → Int := tg (σ t 1) L (cT σ t) (rowT σ t) (colT σ t) (σ t 1) 0
def QSh (p q t : Nat) (σ σ' : eS) : Prop := fr (rgP0 p q) σ σ' ∧ bd64 σ' q ∧ σ' p 2 = 2 * σ t 1 ∧ 0 ≤ σ' p 3 ∧ σ' p 3 ≤ 799999992 ∧ grS (rowT σ t) (colT σ t) (σ t 1) (σ' p 3) ∧ ag (2 * σ t 1) (pk σ' q) (shW σ t (σ' p 3))
theorem t_Pe_startShop {σ : eS} {p q t : Nat} (hp : pP p q) (ht : tA t) (hT : iT σ t) (hn4 : σ t 1 ≤ 4) : MtV shA M_Pe_startShop [vr p, vr t] σ (fun σ' => QSh p q t σ σ') := by
  refine Mt.of okM_Pe_startShop (Nat.le_of_ble_eq_true rfl) (fun hk hg => ?_)
  obtain ⟨n0, n1, n2, n3, n4⟩ := pP_n hp
  have nA := tA_10 ht
  have m1 := hT.1
  refine ok_aload_n 0 rfl rfl rfl (ok_getI 1 rfl rfl fl_X5_41 (sT ht) rfl (Or.inl rfl) (ok_ist2 2 rfl rfl rfl (ok_aload_n 3 rfl rfl rfl (ok_callVI (M' := M_Ta_greatestSum) (as := []) 4 rfl rfl ml_X5_45 (t_Ta_greatestSum ht hT) (sT ht) rfl (Nat.le_of_ble_eq_true rfl) ⟨Nat.le_of_ble_eq_true rfl, Nat.le_of_ble_eq_true rfl⟩ rfl (Nat.le_of_ble_eq_true rfl) (fun σ' L hL => ?_)))))
  obtain ⟨hs_, hL⟩ := hL
  rw [hs_]; clear hs_ σ'
  refine ok_ist3 5 rfl rfl rfl (ok_aload_n 6 rfl rfl rfl (ok_getR 7 rfl rfl fl_X5_9 (sP hp) rfl (ok_iconst 8 rfl rfl (by decide) (ok_callSV (M' := M_Ja_fill) (as := [_, _]) 9 rfl rfl ml_X5_49 (s_Ja_fill (sQ hp) (by decide)) ⟨Nat.le_of_ble_eq_true rfl, Nat.le_of_ble_eq_true rfl⟩ rfl (Nat.le_of_ble_eq_true rfl) (fun τ f => ?_)))))
  refine ok_iconst 10 rfl rfl (by decide) (ok_ist4 11 rfl rfl rfl ?_)
  obtain ⟨L1, L2, L3⟩ := hL
  refine lpO2 (fun (i : Int) (_ : eS) => [some (vr p), some (vr t), some (vi (σ t 1)), some (vi L), some (vi i), none, none]) (fun _ ρ => ρ) (fun i ρ => 0 ≤ i ∧ i ≤ σ t 1 ∧ fr (fun c _ => c = q) σ ρ ∧ bd64 ρ q ∧ ∀ a b, 0 ≤ a → a < 2 * σ t 1 → 0 ≤ b → b < 2 * σ t 1 → ρ q (a * 8 + b) = tg (σ t 1) L (cT σ t) (rowT σ t) (colT σ t) i 0 a b) (fun i _ => (8 - i).toNat) ?_ 0 τ ⟨by omega, by omega, f.1, fun k a b => by rw [f.2 k a b]; omega, fun a b a1 a2 b1 b2 => by rw [f.2 _ (by omega) (by omega), tg_0 ⟨a1, a2⟩ ⟨b1, b2⟩]⟩
  clear f τ
  rintro i ρ ⟨i1, i2, f, hc, hw⟩ ih
  refine ok_iload 12 rfl rfl rfl (ok_iload_n 13 rfl rfl rfl (ok_icmp_ge 14 143 rfl rfl rfl (fun h24 => ?_) (fun h24 => ?_)))
  · refine ok_aload_n 85 rfl rfl rfl (ok_iconst 86 rfl rfl (by decide) (ok_iload_n 87 rfl rfl rfl (ok_imul 88 rfl rfl (by first | omega | (simp [up_if]; omega) | (simp [up_if] at *; omega)) (ok_putI 89 rfl rfl fl_X5_15 (sP hp) rfl rfl rfl (ok_aload_n 90 rfl rfl rfl (ok_iload_n 91 rfl rfl rfl (ok_putI 92 rfl rfl fl_X5_19 (sP hp) rfl rfl rfl (ok_aload_n 93 rfl rfl rfl (ok_iconst 94 rfl rfl (by decide) (ok_putI 95 rfl rfl fl_X5_22 (sP hp) rfl rfl rfl (ok_vret 96 rfl rfl rfl ?_)))))))))))
    have ei : i = σ t 1 := by omega
    rw [ei] at hw
    have e3 : ∀ a b c : Int, up (up (up ρ p 2 a) p 3 b) p 4 c p 3 = b := fun a b c => by rw [up_nk _ _ _ _ (by decide), up_same]
    have eq : ∀ a b c k : Int, up (up (up ρ p 2 a) p 3 b) p 4 c q k = ρ q k := fun a b c k => by rw [up_ne _ _ _ _ (Ne.symm n1), up_ne _ _ _ _ (Ne.symm n1), up_ne _ _ _ _ (Ne.symm n1)]
    refine ⟨rfl, fr_up (fr_up (fr_up (f.mono (fun c k w => Or.inr w)) (by simp [rgP0])) (by simp [rgP0])) (by simp [rgP0]), fun k a b => by rw [eq]; exact hc k a b, ?_, by rw [e3]; exact L1, by rw [e3]; exact L2, by rw [e3]; exact L3, fun a b a1 a2 b1 b2 => ?_⟩
    · rw [up_nk _ _ _ _ (by decide), up_nk _ _ _ _ (by decide), up_same]
    · rw [e3]
      unfold pk shW
      rw [eq]
      exact hw a b a1 a2 b1 b2
  · refine ok_iconst 15 rfl rfl (by decide) (ok_ist5 16 rfl rfl rfl ?_)
    have il : i < σ t 1 := by omega
    refine lpO2 (fun (j : Int) (_ : eS) => [some (vr p), some (vr t), some (vi (σ t 1)), some (vi L), some (vi i), some (vi j), none]) (fun _ ρ => ρ) (fun j ρ => 0 ≤ j ∧ j ≤ σ t 1 ∧ fr (fun c _ => c = q) σ ρ ∧ bd64 ρ q ∧ ∀ a b, 0 ≤ a → a < 2 * σ t 1 → 0 ≤ b → b < 2 * σ t 1 → ρ q (a * 8 + b) = tg (σ t 1) L (cT σ t) (rowT σ t) (colT σ t) i j a b) (fun j _ => (8 - j).toNat) ?_ 0 ρ ⟨by omega, by omega, f, hc, hw⟩
    clear f hc hw ρ
    rintro j ρ ⟨j1, j2, f, hc, hw⟩ ih2
    refine ok_iload 17 rfl rfl rfl (ok_iload_n 18 rfl rfl rfl (ok_icmp_ge 19 91 rfl rfl rfl (fun h33 => ?_) (fun h33 => ?_)))
    · have x1 := iT_cg hT (f t 1 (by omega)) (f t 2 (by omega)) (fun k => f (t + 4) k (by omega))
      have r1 := rowT_bd hT (i := i) ⟨i1, by omega⟩
      have r2 := colT_bd hT (i := i) ⟨i1, by omega⟩
      have r3 := L3.1 i i1 il
      refine ok_aload_n 53 rfl rfl rfl (ok_getR 54 rfl rfl fl_X5_9 (sP hp) rfl (ok_iload 55 rfl rfl rfl (ok_bipush 56 rfl rfl (by decide) (by decide) (ok_imul 57 rfl rfl (by first | omega | (simp [up_if]; omega) | (simp [up_if] at *; omega)) (ok_iload_n 58 rfl rfl rfl (ok_iadd 59 rfl rfl (by first | omega | (simp [up_if]; omega) | (simp [up_if] at *; omega)) (ok_iload 60 rfl rfl rfl (ok_iadd 61 rfl rfl (by first | omega | (simp [up_if]; omega) | (simp [up_if] at *; omega)) (ok_iload_n 62 rfl rfl rfl (ok_aload_n 63 rfl rfl rfl (ok_iload 64 rfl rfl rfl (ok_callVI (M' := M_Ta_sumOfRow) (as := [_]) 65 rfl rfl ml_X5_55 (s_Ta_sumOfRow ht x1.1 ⟨i1, by omega⟩) (sT ht) rfl (Nat.le_of_ble_eq_true rfl) ⟨Nat.le_of_ble_eq_true rfl, Nat.le_of_ble_eq_true rfl⟩ rfl (Nat.le_of_ble_eq_true rfl) (fun σ' z hz => ?_)))))))))))))
      rw [hz.1, hz.2]
      clear hz z σ'
      rw [x1.2.1]
      refine ok_isub 66 rfl rfl (by first | omega | (simp [up_if]; omega) | (simp [up_if] at *; omega)) (ok_iast 67 rfl rfl (sQ hp) (by first | omega | (simp [up_if]; omega) | (simp [up_if] at *; omega)) ?_)
      have f2 : fr (fun c _ => c = q) σ (up ρ q (i * 8 + σ t 1 + i) (L - rowT σ t i)) := fr_up f rfl
      have x2 := iT_cg hT (f2 t 1 (by omega)) (f2 t 2 (by omega)) (fun k => f2 (t + 4) k (by omega))
      refine ok_aload_n 68 rfl rfl rfl (ok_getR 69 rfl rfl fl_X5_9 (sP hp) rfl (ok_iload_n 70 rfl rfl rfl (ok_iload 71 rfl rfl rfl (ok_iadd 72 rfl rfl (by first | omega | (simp [up_if]; omega) | (simp [up_if] at *; omega)) (ok_bipush 73 rfl rfl (by decide) (by decide) (ok_imul 74 rfl rfl (by first | omega | (simp [up_if]; omega) | (simp [up_if] at *; omega)) (ok_iload 75 rfl rfl rfl (ok_iadd 76 rfl rfl (by first | omega | (simp [up_if]; omega) | (simp [up_if] at *; omega)) (ok_iload_n 77 rfl rfl rfl (ok_aload_n 78 rfl rfl rfl (ok_iload 79 rfl rfl rfl (ok_callVI (M' := M_Ta_sumOfColumn) (as := [_]) 80 rfl rfl ml_X5_59 (s_Ta_sumOfColumn ht x2.1 ⟨i1, by omega⟩) (sT ht) rfl (Nat.le_of_ble_eq_true rfl) ⟨Nat.le_of_ble_eq_true rfl, Nat.le_of_ble_eq_true rfl⟩ rfl (Nat.le_of_ble_eq_true rfl) (fun σ' z hz => ?_)))))))))))))
      rw [hz.1, hz.2]
      clear hz z σ'
      rw [x2.2.2]
      refine ok_isub 81 rfl rfl (by first | omega | (simp [up_if]; omega) | (simp [up_if] at *; omega)) (ok_iast 82 rfl rfl (sQ hp) (by first | omega | (simp [up_if]; omega) | (simp [up_if] at *; omega)) (ok_inc4 83 rfl rfl rfl (by first | omega | (simp [up_if]; omega) | (simp [up_if] at *; omega)) (ok_goto 84 21 rfl rfl rfl ?_)))
      have ej : j = σ t 1 := by omega
      rw [ej] at hw
      refine ok_fg [some (vr p), some (vr t), some (vi (σ t 1)), some (vi L), some (vi (i + 1)), none, none] ⟨rfl, rfl, rfl, rfl, rfl, trivial⟩ (ih (i + 1) _ ⟨by omega, by omega, fr_up f2 rfl, bd_up (bd_up hc ⟨by omega, by omega⟩) ⟨by omega, by omega⟩, fun a b a1 a2 b1 b2 => ?_⟩ (by omega))
      rw [pk_up (a := σ t 1 + i) (b := i) rfl ⟨by omega, by omega⟩ ⟨by omega, by omega⟩, pk_up (a := i) (b := σ t 1 + i) (by omega) ⟨by omega, by omega⟩ ⟨by omega, by omega⟩, hw a b a1 a2 b1 b2]
      exact tg_d ⟨i1, il⟩ ⟨a1, a2⟩ ⟨b1, b2⟩
    · refine ok_aload_n 20 rfl rfl rfl (ok_getR 21 rfl rfl fl_X5_32 (sT ht) rfl (ok_iload 22 rfl rfl rfl (ok_bipush 23 rfl rfl (by decide) (by decide) (ok_imul 24 rfl rfl (by first | omega | (simp [up_if]; omega) | (simp [up_if] at *; omega)) (ok_iload 25 rfl rfl rfl (ok_iadd 26 rfl rfl (by first | omega | (simp [up_if]; omega) | (simp [up_if] at *; omega)) (ok_iald 27 rfl rfl (sC ht) (by first | omega | (simp [up_if]; omega) | (simp [up_if] at *; omega)) (ok_ist6 28 rfl rfl rfl (ok_aload_n 29 rfl rfl rfl (ok_getR 30 rfl rfl fl_X5_9 (sP hp) rfl (ok_iload 31 rfl rfl rfl (ok_bipush 32 rfl rfl (by decide) (by decide) (ok_imul 33 rfl rfl (by first | omega | (simp [up_if]; omega) | (simp [up_if] at *; omega)) (ok_iload 34 rfl rfl rfl (ok_iadd 35 rfl rfl (by first | omega | (simp [up_if]; omega) | (simp [up_if] at *; omega)) (ok_iload 36 rfl rfl rfl (ok_iast 37 rfl rfl (sQ hp) (by first | omega | (simp [up_if]; omega) | (simp [up_if] at *; omega)) (ok_aload_n 38 rfl rfl rfl (ok_getR 39 rfl rfl fl_X5_9 (sP hp) rfl (ok_iload_n 40 rfl rfl rfl (ok_iload 41 rfl rfl rfl (ok_iadd 42 rfl rfl (by first | omega | (simp [up_if]; omega) | (simp [up_if] at *; omega)) (ok_bipush 43 rfl rfl (by decide) (by decide) (ok_imul 44 rfl rfl (by first | omega | (simp [up_if]; omega) | (simp [up_if] at *; omega)) (ok_iload_n 45 rfl rfl rfl (ok_iadd 46 rfl rfl (by first | omega | (simp [up_if]; omega) | (simp [up_if] at *; omega)) (ok_iload 47 rfl rfl rfl (ok_iadd 48 rfl rfl (by first | omega | (simp [up_if]; omega) | (simp [up_if] at *; omega)) (ok_iload 49 rfl rfl rfl (ok_iast 50 rfl rfl (sQ hp) (by first | omega | (simp [up_if]; omega) | (simp [up_if] at *; omega)) (ok_inc5 51 rfl rfl rfl (by first | omega | (simp [up_if]; omega) | (simp [up_if] at *; omega)) (ok_goto 52 30 rfl rfl rfl ?_))))))))))))))))))))))))))))))))
      have cc := hT.2.2.2 (i * 8 + j) (by omega) (by omega)
      have ce : ρ (t + 4) (i * 8 + j) = cT σ t i j := f (t + 4) _ (by omega)
      have cb : 0 ≤ cT σ t i j ∧ cT σ t i j ≤ 799999992 := by unfold cT; omega
      rw [ce]
      refine ok_fg [some (vr p), some (vr t), some (vi (σ t 1)), some (vi L), some (vi i), some (vi (j + 1)), none] ⟨rfl, rfl, rfl, rfl, rfl, rfl, trivial⟩ (ih2 (j + 1) _ ⟨by omega, by omega, fr_up (fr_up f rfl) rfl, bd_up (bd_up hc cb) cb, fun a b a1 a2 b1 b2 => ?_⟩ (by omega))
      rw [pk_up (a := σ t 1 + j) (b := σ t 1 + i) (by omega) ⟨by omega, by omega⟩ ⟨by omega, by omega⟩, pk_up (a := i) (b := j) rfl ⟨by omega, by omega⟩ ⟨by omega, by omega⟩, hw a b a1 a2 b1 b2]
      exact tg_s ⟨i1, il⟩ ⟨j1, by omega⟩
end
section
/-! PEEL and SHOP, the class -/
theorem t_Mi_start {σ : eS} {a b c d : Int} : MtV shA M_Mi_start [vr 22, vi a, vi b, vi c, vi d] σ (fun σ' => fr (fun c k => c = 22 ∧ 2 ≤ k ∧ k ≤ 6) σ σ' ∧ σ' 22 2 = a ∧ σ' 22 3 = b ∧ σ' 22 4 = c ∧ σ' 22 5 = 0 ∧ σ' 22 6 = d) := by
  refine Mt.of okM_Mi_start (Nat.le_of_ble_eq_true rfl) (fun hk hg => ?_)
  refine ok_aload_n 0 rfl rfl rfl (ok_iload_n 1 rfl rfl rfl (ok_putI 2 rfl rfl fl_X3_18 rfl rfl rfl rfl (ok_aload_n 3 rfl rfl rfl (ok_iload_n 4 rfl rfl rfl (ok_putI 5 rfl rfl fl_X3_22 rfl rfl rfl rfl (ok_aload_n 6 rfl rfl rfl (ok_iload_n 7 rfl rfl rfl (ok_putI 8 rfl rfl fl_X3_25 rfl rfl rfl rfl (ok_aload_n 9 rfl rfl rfl (ok_iload 10 rfl rfl rfl (ok_putI 11 rfl rfl fl_X3_31 rfl rfl rfl rfl (ok_aload_n 12 rfl rfl rfl (ok_iconst 13 rfl rfl (by decide) (ok_putI 14 rfl rfl fl_X3_28 rfl rfl rfl rfl (ok_vret 15 rfl rfl rfl ?_)))))))))))))))
  exact ⟨rfl, fr_up (fr_up (fr_up (fr_up (fr_up fr.rf (by simp)) (by simp)) (by simp)) (by simp)) (by simp), by simp [up_if], by simp [up_if], by simp [up_if], by simp [up_if], by simp [up_if]⟩
abbrev rgPl : Nat → Int → Prop := fun c k => (16 ≤ c ∧ c ≤ 21) ∨ (c = 22 ∧ 2 ≤ k ∧ k ≤ 6) ∨ c = 23 ∨ c = 24
/-- parts are kept: kind, n, rows, whole and the parts -/
def mpA (σ σ' : eS) (kind n rows m r z : Int) (W : Int → Int → Int) : Prop := fr rgPl σ σ' ∧ iCh σ' ∧ cSe σ σ' 64 ∧ iMi σ' ∧ (σ' 22 2 = kind ∧ σ' 22 3 = n ∧ σ' 22 4 = rows ∧ σ' 22 5 = z ∧ σ' 22 6 = m) ∧ PE rows r W (fun q => σ' 23 q) (fun q i => σ' 24 (8 * q + i)) z
def evA (σ : eS) (s : Int) : Prop := 0 ≤ s ∧ s < 4 ∧ σ (s.toNat + 2) 3 ≠ -1
def okP (E : Prop) (r : Int) : Prop := E ∧ 0 ≤ r ∧ r ≤ 3
theorem evT_ev {σ : eS} {t : Nat} (hT : iT σ t) (h : evT σ t) : EvW (σ t 1) (cT σ t) (rowT σ t 0) := by
  refine ⟨fun i j a b c d => (cT_bd hT ⟨a, by have := hT.2.1; omega⟩ ⟨c, by have := hT.2.1; omega⟩).1, fun i a b => h.2.2.1 i a b, fun j a b => h.2.2.2 j a b⟩
def XpA (σ : eS) (s r : Int) (σ' : eS) (z : Int) : Prop := (¬ okP (evA σ s) r ∧ σ' = σ ∧ z = -1) ∨ (okP (evA σ s) r ∧ mpA σ σ' 1 (σ (s.toNat + 2) 1) (σ (s.toNat + 2) 1) (σ (s.toNat + 2) 3) r z (cT σ (s.toNat + 2)))
theorem t_Ev_peel {σ : eS} {s r : Int} (h : IA σ) (hS : iSe σ) (hS2 : σ 16 3 + 64 < 2147483647) : MtI shA M_Ev_peel [vr 0, vi s, vi r] σ (XpA σ s r) := by
  refine Mt.of okM_Ev_peel (Nat.le_of_ble_eq_true rfl) (fun hk hg => ?_)
  refine ok_aload_n 0 rfl rfl rfl (ok_iload_n 1 rfl rfl rfl (ok_callVR (M' := M_Ev_evenSlot) (as := [_]) 2 rfl rfl ml_X11_163 (s_Ev_evenSlot) rfl rfl (Nat.le_of_ble_eq_true rfl) ⟨Nat.le_of_ble_eq_true rfl, Nat.le_of_ble_eq_true rfl⟩ rfl (Nat.le_of_ble_eq_true rfl) (fun σ' z hz => ?_)))
  obtain ⟨hs_, hz⟩ := hz
  rw [hs_]; clear hs_ σ'
  rcases hz with ⟨q, q0⟩ | ⟨q1, q2, q, q3⟩
  · subst q
    refine ok_ast3 3 rfl rfl rfl (ok_aload_n 4 rfl rfl rfl (ok_ifnullN 5 17 rfl rfl rfl (ok_iconst 9 rfl rfl (by decide) (ok_iret 10 rfl rfl rfl ?_))))
    exact ⟨_, rfl, Or.inl ⟨fun c => q0 c.1, rfl, rfl⟩⟩
  · subst q
    have ht := sl_tA ⟨q1, q2⟩
    have nA := tA_10 ht
    obtain ⟨hT, hM⟩ := h.2.1 _ ht
    have hb := mT_bd hT hM q3
    have m2 := hT.2.1
    have hm := h.2.2.2.1
    obtain ⟨v1, v2⟩ : evT σ (s.toNat + 2) ∧ σ (s.toNat + 2) 3 = rowT σ (s.toNat + 2) 0 := by
      rcases hM with q | q
      · exact absurd q.1 q3
      · exact q
    have m1 := v1.1
    have hev := evT_ev hT v1
    rw [← v2] at hev
    refine ok_ast3 3 rfl rfl rfl (ok_aload_n 4 rfl rfl rfl (ok_ifnull 5 rfl rfl (ok_iload_n 6 rfl rfl rfl (ok_callSI (M' := M_Ev_isRule) (as := [_]) 7 rfl rfl ml_X11_166 (s_Ev_isRule) ⟨Nat.le_of_ble_eq_true rfl, Nat.le_of_ble_eq_true rfl⟩ rfl (Nat.le_of_ble_eq_true rfl) (fun σ' z1 x1 => ?_)))))
    obtain ⟨hs_, x1⟩ := x1
    rw [hs_]; clear hs_ σ'
    refine ok_if_ne 8 19 rfl rfl rfl (fun h14 => ?_) (fun h14 => ?_)
    · refine ok_aload_n 11 rfl rfl rfl (ok_getR 12 rfl rfl fl_X11_41 rfl rfl (ok_aload_n 13 rfl rfl rfl (ok_callVV (M' := M_Pe_startTable) (as := [_]) 14 rfl rfl ml_X11_169 (t_Pe_startTable (p := 20) (q := 21) (Or.inl ⟨rfl, rfl⟩) ht) rfl rfl (Nat.le_of_ble_eq_true rfl) ⟨Nat.le_of_ble_eq_true rfl, Nat.le_of_ble_eq_true rfl⟩ rfl (Nat.le_of_ble_eq_true rfl) (fun τ f => ?_))))
      obtain ⟨f1, f2, f3, f4, f5⟩ := f
      have e1 : τ (s.toNat + 2) 1 = σ (s.toNat + 2) 1 := f1 _ _ (by simp only [rgP0]; omega)
      have e3 : τ (s.toNat + 2) 3 = σ (s.toNat + 2) 3 := f1 _ _ (by simp only [rgP0]; omega)
      refine ok_aload_n 15 rfl rfl rfl (ok_getR 16 rfl rfl fl_X11_48 rfl rfl (ok_iconst 17 rfl rfl (by decide) (ok_aload_n 18 rfl rfl rfl (ok_getI 19 rfl rfl fl_X11_103 (sT ht) rfl (Or.inl rfl) (ok_aload_n 20 rfl rfl rfl (ok_getI 21 rfl rfl fl_X11_103 (sT ht) rfl (Or.inl rfl) (ok_aload_n 22 rfl rfl rfl (ok_getI 23 rfl rfl fl_X11_109 (sT ht) rfl (Or.inl rfl) (ok_callVV (M' := M_Mi_start) (as := [_, _, _, _]) 24 rfl rfl ml_X11_173 (t_Mi_start) rfl rfl (Nat.le_of_ble_eq_true rfl) ⟨Nat.le_of_ble_eq_true rfl, Nat.le_of_ble_eq_true rfl⟩ rfl (Nat.le_of_ble_eq_true rfl) (fun υ g => ?_))))))))))
      obtain ⟨g1, g2, g3, g4, g5, g6⟩ := g
      have k2 : υ 20 2 = σ (s.toNat + 2) 1 := by rw [g1 20 2 (by simp), f2]
      have k3 : υ 20 3 = σ (s.toNat + 2) 3 := by rw [g1 20 3 (by simp), f3]
      have F : fr rgPl σ υ := (f1.mono (fun c k w => by simp only [rgP0, rgPl] at w ⊢; omega)).tr (g1.mono (fun c k w => by simp only [rgPl]; omega))
      have M : iMi υ := ⟨by omega, fun k a b => by omega, fun k a b => by rw [g1 24 k (by simp), f1 24 k (by simp [rgP0])]; exact hm.2.2.1 k a b, by rw [g5, g6]; show (0 : Int) ≤ _; omega⟩
      have C : iCh υ := iCh_cg h.2.2.1 (fun k => by rw [g1 17 k (by simp), f1 17 k (by simp [rgP0])])
      have c16 : υ 16 3 = σ 16 3 := by rw [g1 16 3 (by simp), f1 16 3 (by simp [rgP0])]
      have SS : iSe υ := iSe_cg hS c16 (fun k => by rw [g1 19 k (by simp), f1 19 k (by simp [rgP0])])
      have B : bd64 υ 21 := fun k a b => by rw [g1 21 k (by simp), f5 k a b]; have := hT.2.2.2 k a b; omega
      have G : ag (σ (s.toNat + 2) 1) (pk υ 21) (cT σ (s.toNat + 2)) := fun i j a b c d => by
        unfold pk cT
        rw [g1 21 _ (by simp), f5 _ (by omega) (by omega)]
      refine ok_aload_n 25 rfl rfl rfl (ok_iload_n 26 rfl rfl rfl (ok_callVI (M' := M_Ev_keepParts) (as := [_]) 27 rfl rfl ml_X11_177 (t_Ev_keepParts (n := σ (s.toNat + 2) 1) (m := σ (s.toNat + 2) 3) (by omega) ⟨by omega, m2⟩ C SS (by omega) k2 B k3 ⟨by omega, by omega⟩ (EvW_cg hev (fun i j a b c d => G i j a b c d)) M g5 (by rw [g6, e3])) rfl rfl (Nat.le_of_ble_eq_true rfl) ⟨Nat.le_of_ble_eq_true rfl, Nat.le_of_ble_eq_true rfl⟩ rfl (Nat.le_of_ble_eq_true rfl) (fun ω z2 w => ?_)))
      refine ok_iret 28 rfl rfl rfl ?_
      obtain ⟨w1, w2, ⟨w3, w4, w5⟩, w6, w7, w8⟩ := w
      refine ⟨_, rfl, Or.inr ⟨⟨⟨q1, q2, q3⟩, by omega⟩, F.tr (w1.mono (fun c k w => by simp only [rgKq, rgPl] at w ⊢; omega)), w2, ⟨w3, by omega, by omega⟩, w6, ⟨?_, ?_, ?_, w7.symm, ?_⟩, PE_w0 G w8⟩⟩
      · rw [w1 22 2 (by simp [rgKq]), g2]
      · rw [w1 22 3 (by simp [rgKq]), g3, e1]
      · rw [w1 22 4 (by simp [rgKq]), g4, e1]
      · rw [w1 22 6 (by simp [rgKq]), g6, e3]
    · refine ok_iconst 9 rfl rfl (by decide) (ok_iret 10 rfl rfl rfl ?_)
      exact ⟨_, rfl, Or.inl ⟨fun c => by have := c.2; omega, rfl, rfl⟩⟩
/-- is there a cell above 0 -/
def anyP (n : Int) (c : Int → Int → Int) : Prop := ∃ i j, (0 ≤ i ∧ i < n) ∧ (0 ≤ j ∧ j < n) ∧ 0 < c i j
theorem t_Ta_greatestCell {σ : eS} {t : Nat} (ht : tA t) (hT : iT σ t) : MtI shA M_Ta_greatestCell [vr t] σ (fun σ' z => σ' = σ ∧ 0 ≤ z ∧ (z = 0 ↔ ¬ anyP (σ t 1) (cT σ t))) := by
  refine Mt.of okM_Ta_greatestCell (Nat.le_of_ble_eq_true rfl) (fun hk hg => ?_)
  have hn := hT.1
  have hn2 := hT.2.1
  refine ok_iconst 0 rfl rfl (by decide) (ok_ist1 1 rfl rfl rfl (ok_iconst 2 rfl rfl (by decide) (ok_ist2 3 rfl rfl rfl ?_)))
  refine lpO2 (fun v i : Int => [some (vr t), some (vi v), some (vi i), none]) (fun _ _ => σ) (fun v i => (0 ≤ i ∧ i ≤ σ t 1 ∧ 0 ≤ v) ∧ (0 < v → anyP (σ t 1) (cT σ t)) ∧ ∀ x y, 0 ≤ x → x < i → 0 ≤ y → y < σ t 1 → cT σ t x y ≤ v) (fun _ i => (8 - i).toNat) ?_ 0 0 ⟨⟨by omega, by omega, by omega⟩, fun q => by omega, fun x y a b => by omega⟩
  rintro v i ⟨⟨i1, i2, v1⟩, v2, v3⟩ ih
  refine ok_iload_n 4 rfl rfl rfl (ok_aload_n 5 rfl rfl rfl (ok_getI 6 rfl rfl fl_X9_15 (sT ht) rfl (Or.inl rfl) (ok_icmp_ge 7 50 rfl rfl rfl (fun h9 => ?_) (fun h9 => ?_))))
  · refine ok_iload_n 29 rfl rfl rfl (ok_iret 30 rfl rfl rfl ?_)
    refine ⟨_, rfl, rfl, v1, ⟨fun q => ?_, fun q => ?_⟩⟩
    · rintro ⟨x, y, a, b, c⟩
      have := v3 x y a.1 (by omega) b.1 b.2
      omega
    · by_cases w : 0 < v
      · exact absurd (v2 w) q
      · omega
  · refine ok_iconst 8 rfl rfl (by decide) (ok_ist3 9 rfl rfl rfl ?_)
    have il : i < σ t 1 := by omega
    refine lpO2 (fun v j : Int => [some (vr t), some (vi v), some (vi i), some (vi j)]) (fun _ _ => σ) (fun v j => (0 ≤ j ∧ j ≤ σ t 1 ∧ 0 ≤ v) ∧ (0 < v → anyP (σ t 1) (cT σ t)) ∧ ∀ x y, 0 ≤ x → 0 ≤ y → y < σ t 1 → (x < i ∨ (x = i ∧ y < j)) → cT σ t x y ≤ v) (fun _ j => (8 - j).toNat) ?_ v 0 ⟨⟨by omega, by omega, v1⟩, v2, fun x y a b c d => v3 x y a (by omega) b c⟩
    clear v1 v2 v3 v
    rintro v j ⟨⟨j1, j2, v1⟩, v2, v3⟩ ih2
    refine ok_iload_n 10 rfl rfl rfl (ok_aload_n 11 rfl rfl rfl (ok_getI 12 rfl rfl fl_X9_15 (sT ht) rfl (Or.inl rfl) (ok_icmp_ge 13 44 rfl rfl rfl (fun h19 => ?_) (fun h19 => ?_))))
    · refine ok_inc2 27 rfl rfl rfl (by first | omega | (simp [up_if]; omega) | (simp [up_if] at *; omega)) (ok_goto 28 4 rfl rfl rfl ?_)
      exact ok_fg [some (vr t), some (vi _), some (vi (i + 1)), none] ⟨rfl, rfl, rfl, trivial⟩ (ih _ (i + 1) ⟨⟨by omega, by omega, v1⟩, v2, fun x y a b c d => v3 x y a c d (by omega)⟩ (by omega))
    · refine ok_iload_n 14 rfl rfl rfl (ok_aload_n 15 rfl rfl rfl (ok_getR 16 rfl rfl fl_X9_9 (sT ht) rfl (ok_iload_n 17 rfl rfl rfl (ok_bipush 18 rfl rfl (by decide) (by decide) (ok_imul 19 rfl rfl (by first | omega | (simp [up_if]; omega) | (simp [up_if] at *; omega)) (ok_iload_n 20 rfl rfl rfl (ok_iadd 21 rfl rfl (by first | omega | (simp [up_if]; omega) | (simp [up_if] at *; omega)) (ok_iald 22 rfl rfl (sC ht) (by first | omega | (simp [up_if]; omega) | (simp [up_if] at *; omega)) (ok_mmax 23 rfl rfl ml_X9_42 ⟨Nat.le_of_ble_eq_true rfl, Nat.le_of_ble_eq_true rfl⟩ (ok_ist1 24 rfl rfl rfl (ok_inc3 25 rfl rfl rfl (by first | omega | (simp [up_if]; omega) | (simp [up_if] at *; omega)) (ok_goto 26 14 rfl rfl rfl ?_))))))))))))
      obtain ⟨x, ex⟩ : ∃ x, x = σ (t + 4) (i * 8 + j) := ⟨_, rfl⟩
      rw [← ex]
      refine ih2 _ (j + 1) ⟨⟨by omega, by omega, by omega⟩, fun q => ?_, fun a b a1 b1 b2 s => ?_⟩ (by omega)
      · by_cases w : 0 < v
        · exact v2 w
        · exact ⟨i, j, ⟨i1, il⟩, ⟨j1, by omega⟩, by unfold cT; rw [← ex]; omega⟩
      · by_cases w : a = i ∧ b = j
        · rw [w.1, w.2]; unfold cT; rw [← ex]; omega
        · have := v3 a b a1 b1 b2 (by omega); omega
theorem shW_ev {σ : eS} {t : Nat} {L : Int} (hT : iT σ t) (h : grS (rowT σ t) (colT σ t) (σ t 1) L) : EvW (2 * σ t 1) (shW σ t L) L :=
  tg_ev hT.1 (fun i j a b c d => (cT_bd hT ⟨a, by have := hT.2.1; omega⟩ ⟨c, by have := hT.2.1; omega⟩).1) (fun i a b => (h.1 i a b).1) (fun i a b => (h.1 i a b).2)
theorem gr_pos {σ : eS} {t : Nat} {L : Int} (hT : iT σ t) (h : grS (rowT σ t) (colT σ t) (σ t 1) L) (ha : anyP (σ t 1) (cT σ t)) : 1 ≤ L := by
  obtain ⟨i, j, a, b, c⟩ := ha
  have m2 := hT.2.1
  have x := sm_le (f := fun j => cT σ t i j) (n := (σ t 1).toNat) (fun k p q => (cT_bd hT ⟨a.1, by omega⟩ ⟨p, by omega⟩).1) j b.1 (by omega)
  have y := (h.1 i a.1 a.2).1
  unfold rowT at y
  try dsimp only at x
  omega
def okS (T A : Prop) (n r : Int) : Prop := T ∧ n ≤ 4 ∧ A ∧ 0 ≤ r ∧ r ≤ 3
def XsA (σ : eS) (s r : Int) (σ' : eS) (z : Int) : Prop := (¬ okS (tabA σ s) (anyP (σ (s.toNat + 2) 1) (cT σ (s.toNat + 2))) (σ (s.toNat + 2) 1) r ∧ σ' = σ ∧ z = -1) ∨ (okS (tabA σ s) (anyP (σ (s.toNat + 2) 1) (cT σ (s.toNat + 2))) (σ (s.toNat + 2) 1) r ∧ ∃ L, grS (rowT σ (s.toNat + 2)) (colT σ (s.toNat + 2)) (σ (s.toNat + 2) 1) L ∧ mpA σ σ' 2 (σ (s.toNat + 2) 1) (2 * σ (s.toNat + 2) 1) L r z (shW σ (s.toNat + 2) L))
theorem t_Ev_shop {σ : eS} {s r : Int} (h : IA σ) (hS : iSe σ) (hS2 : σ 16 3 + 64 < 2147483647) : MtI shA M_Ev_shop [vr 0, vi s, vi r] σ (XsA σ s r) := by
  refine Mt.of okM_Ev_shop (Nat.le_of_ble_eq_true rfl) (fun hk hg => ?_)
  refine ok_aload_n 0 rfl rfl rfl (ok_iload_n 1 rfl rfl rfl (ok_callVR (M' := M_Ev_filledSlot) (as := [_]) 2 rfl rfl ml_X11_137 (s_Ev_filledSlot) rfl rfl (Nat.le_of_ble_eq_true rfl) ⟨Nat.le_of_ble_eq_true rfl, Nat.le_of_ble_eq_true rfl⟩ rfl (Nat.le_of_ble_eq_true rfl) (fun σ' z hz => ?_)))
  obtain ⟨hs_, hz⟩ := hz
  rw [hs_]; clear hs_ σ'
  rcases hz with ⟨q, q0⟩ | ⟨q1, q2, q, q3⟩
  · subst q
    refine ok_ast3 3 rfl rfl rfl (ok_aload_n 4 rfl rfl rfl (ok_ifnullN 5 32 rfl rfl rfl (ok_iconst 16 rfl rfl (by decide) (ok_iret 17 rfl rfl rfl ?_))))
    exact ⟨_, rfl, Or.inl ⟨fun c => q0 c.1, rfl, rfl⟩⟩
  · subst q
    have ht := sl_tA ⟨q1, q2⟩
    have nA := tA_10 ht
    obtain ⟨hT, hM⟩ := h.2.1 _ ht
    have m1 := hT.1
    have hm := h.2.2.2.1
    refine ok_ast3 3 rfl rfl rfl (ok_aload_n 4 rfl rfl rfl (ok_ifnull 5 rfl rfl (ok_aload_n 6 rfl rfl rfl (ok_getI 7 rfl rfl fl_X11_103 (sT ht) rfl (Or.inl rfl) (ok_iconst 8 rfl rfl (by decide) (ok_icmp_gt 9 32 rfl rfl rfl (fun h15 => ?_) (fun h15 => ?_)))))))
    · refine ok_iconst 16 rfl rfl (by decide) (ok_iret 17 rfl rfl rfl ?_)
      exact ⟨_, rfl, Or.inl ⟨fun c => by have := c.2.1; omega, rfl, rfl⟩⟩
    · refine ok_aload_n 10 rfl rfl rfl (ok_callVI (M' := M_Ta_greatestCell) (as := []) 11 rfl rfl ml_X11_116 (t_Ta_greatestCell ht hT) (sT ht) rfl (Nat.le_of_ble_eq_true rfl) ⟨Nat.le_of_ble_eq_true rfl, Nat.le_of_ble_eq_true rfl⟩ rfl (Nat.le_of_ble_eq_true rfl) (fun σ' z0 x0 => ?_))
      obtain ⟨hs_, x0⟩ := x0
      rw [hs_]; clear hs_ σ'
      refine ok_if_eq 12 32 rfl rfl rfl (fun h22 => ?_) (fun h22 => ?_)
      · refine ok_iconst 16 rfl rfl (by decide) (ok_iret 17 rfl rfl rfl ?_)
        exact ⟨_, rfl, Or.inl ⟨fun c => x0.2.mp h22 c.2.2.1, rfl, rfl⟩⟩
      · refine ok_iload_n 13 rfl rfl rfl (ok_callSI (M' := M_Ev_isRule) (as := [_]) 14 rfl rfl ml_X11_166 (s_Ev_isRule) ⟨Nat.le_of_ble_eq_true rfl, Nat.le_of_ble_eq_true rfl⟩ rfl (Nat.le_of_ble_eq_true rfl) (fun σ' z1 x1 => ?_))
        obtain ⟨hs_, x1⟩ := x1
        rw [hs_]; clear hs_ σ'
        refine ok_if_ne 15 34 rfl rfl rfl (fun h29 => ?_) (fun h29 => ?_)
        · refine ok_aload_n 18 rfl rfl rfl (ok_getR 19 rfl rfl fl_X11_41 rfl rfl (ok_aload_n 20 rfl rfl rfl (ok_callVV (M' := M_Pe_startShop) (as := [_]) 21 rfl rfl ml_X11_294 (t_Pe_startShop (p := 20) (q := 21) (Or.inl ⟨rfl, rfl⟩) ht hT (by omega)) rfl rfl (Nat.le_of_ble_eq_true rfl) ⟨Nat.le_of_ble_eq_true rfl, Nat.le_of_ble_eq_true rfl⟩ rfl (Nat.le_of_ble_eq_true rfl) (fun τ f => ?_))))
          obtain ⟨f1, f2, f3, f4, f5, f6, f7⟩ := f
          have ha : anyP (σ (s.toNat + 2) 1) (cT σ (s.toNat + 2)) := Classical.byContradiction (fun c => h22 (x0.2.mpr c))
          have hL := gr_pos hT f6 ha
          have e1 : τ (s.toNat + 2) 1 = σ (s.toNat + 2) 1 := f1 _ _ (by simp only [rgP0]; omega)
          refine ok_aload_n 22 rfl rfl rfl (ok_getR 23 rfl rfl fl_X11_48 rfl rfl (ok_iconst 24 rfl rfl (by decide) (ok_aload_n 25 rfl rfl rfl (ok_getI 26 rfl rfl fl_X11_103 (sT ht) rfl (Or.inl rfl) (ok_iconst 27 rfl rfl (by decide) (ok_aload_n 28 rfl rfl rfl (ok_getI 29 rfl rfl fl_X11_103 (sT ht) rfl (Or.inl rfl) (ok_imul 30 rfl rfl (by first | omega | (simp [up_if]; omega) | (simp [up_if] at *; omega)) (ok_aload_n 31 rfl rfl rfl (ok_getR 32 rfl rfl fl_X11_41 rfl rfl (ok_getI 33 rfl rfl fl_X11_297 rfl rfl (Or.inl rfl) (ok_callVV (M' := M_Mi_start) (as := [_, _, _, _]) 34 rfl rfl ml_X11_173 (t_Mi_start) rfl rfl (Nat.le_of_ble_eq_true rfl) ⟨Nat.le_of_ble_eq_true rfl, Nat.le_of_ble_eq_true rfl⟩ rfl (Nat.le_of_ble_eq_true rfl) (fun υ g => ?_)))))))))))))
          obtain ⟨g1, g2, g3, g4, g5, g6⟩ := g
          have k2 : υ 20 2 = 2 * σ (s.toNat + 2) 1 := by rw [g1 20 2 (by simp), f3]
          have k3 : υ 20 3 = τ 20 3 := g1 20 3 (by simp)
          have F : fr rgPl σ υ := (f1.mono (fun c k w => by simp only [rgP0, rgPl] at w ⊢; omega)).tr (g1.mono (fun c k w => by simp only [rgPl]; omega))
          have M : iMi υ := ⟨by omega, fun k a b => by omega, fun k a b => by rw [g1 24 k (by simp), f1 24 k (by simp [rgP0])]; exact hm.2.2.1 k a b, by rw [g5, g6]; show (0 : Int) ≤ _; omega⟩
          have C : iCh υ := iCh_cg h.2.2.1 (fun k => by rw [g1 17 k (by simp), f1 17 k (by simp [rgP0])])
          have c16 : υ 16 3 = σ 16 3 := by rw [g1 16 3 (by simp), f1 16 3 (by simp [rgP0])]
          have SS : iSe υ := iSe_cg hS c16 (fun k => by rw [g1 19 k (by simp), f1 19 k (by simp [rgP0])])
          have B : bd64 υ 21 := fun k a b => by rw [g1 21 k (by simp)]; exact f2 k a b
          have G : ag (2 * σ (s.toNat + 2) 1) (pk υ 21) (shW σ (s.toNat + 2) (τ 20 3)) := fun i j a b c d => by
            rw [← f7 i j a b c d]
            exact g1 21 _ (by simp)
          have E := EvW_cg (shW_ev hT f6) (fun i j a b c d => G i j a b c d)
          refine ok_aload_n 35 rfl rfl rfl (ok_iload_n 36 rfl rfl rfl (ok_callVI (M' := M_Ev_keepParts) (as := [_]) 37 rfl rfl ml_X11_177 (t_Ev_keepParts (n := 2 * σ (s.toNat + 2) 1) (m := τ 20 3) (by omega) ⟨by omega, by omega⟩ C SS (by omega) k2 B k3 ⟨by omega, by omega⟩ E M g5 g6) rfl rfl (Nat.le_of_ble_eq_true rfl) ⟨Nat.le_of_ble_eq_true rfl, Nat.le_of_ble_eq_true rfl⟩ rfl (Nat.le_of_ble_eq_true rfl) (fun ω z2 w => ?_)))
          refine ok_iret 38 rfl rfl rfl ?_
          obtain ⟨w1, w2, ⟨w3, w4, w5⟩, w6, w7, w8⟩ := w
          refine ⟨_, rfl, Or.inr ⟨⟨⟨q1, q2, q3⟩, by omega, ha, by omega⟩, τ 20 3, f6, F.tr (w1.mono (fun c k w => by simp only [rgKq, rgPl] at w ⊢; omega)), w2, ⟨w3, by omega, by omega⟩, w6, ⟨?_, ?_, ?_, w7.symm, ?_⟩, PE_w0 G w8⟩⟩
          · rw [w1 22 2 (by simp [rgKq]), g2]
          · rw [w1 22 3 (by simp [rgKq]), g3, e1]
          · rw [w1 22 4 (by simp [rgKq]), g4, e1]
          · rw [w1 22 6 (by simp [rgKq]), g6]
        · refine ok_iconst 16 rfl rfl (by decide) (ok_iret 17 rfl rfl rfl ?_)
          exact ⟨_, rfl, Or.inl ⟨fun c => by have := c.2.2.2; omega, rfl, rfl⟩⟩
end
section
/-! PEEL and SHOP, the reference -/
def mpB (σ σ' : eS) (kind rows m r z : Int) (W : Int → Int → Int) : Prop := QP σ σ' ∧ (σ' 0 30 = kind ∧ σ' 0 28 = rows ∧ σ' 0 27 = z ∧ σ' 0 29 = m) ∧ PE rows r W (fun q => σ' 12 q) (fun q i => σ' 13 (8 * q + i)) z
def XpB (σ : eS) (s r : Int) (σ' : eS) (z : Int) : Prop := (¬ okP (evB σ s) r ∧ σ' = σ ∧ z = -1) ∨ (okP (evB σ s) r ∧ mpB σ σ' 1 (σ 1 s) (rowB σ s 0) r z (cB σ s))
theorem t_Mo_peel {σ : eS} {s r : Int} (hB : iB1 σ) : MtI shB M_Mo_peel [vr 0, vi s, vi r] σ (XpB σ s r) := by
  refine Mt.of okM_Mo_peel (Nat.le_of_ble_eq_true rfl) (fun hk hg => ?_)
  refine ok_aload_n 0 rfl rfl rfl (ok_iload_n 1 rfl rfl rfl (ok_callVI (M' := M_Mo_isEven) (as := [_]) 2 rfl rfl ml_X12_202 (s_Mo_isEven hB) rfl rfl (Nat.le_of_ble_eq_true rfl) ⟨Nat.le_of_ble_eq_true rfl, Nat.le_of_ble_eq_true rfl⟩ rfl (Nat.le_of_ble_eq_true rfl) (fun σ' z1 a1 => ?_)))
  obtain ⟨hs_, a1⟩ := a1
  rw [hs_]; clear hs_ σ'
  refine ok_if_eq 3 15 rfl rfl rfl (fun h5 => ?_) (fun h5 => ?_)
  · refine ok_iconst 7 rfl rfl (by decide) (ok_iret 8 rfl rfl rfl ?_)
    exact ⟨_, rfl, Or.inl ⟨fun c => no1 a1 h5 c.1, rfl, rfl⟩⟩
  · refine ok_iload_n 4 rfl rfl rfl (ok_callSI (M' := M_Mo_isRule) (as := [_]) 5 rfl rfl ml_X12_291 (s_Mo_isRule) ⟨Nat.le_of_ble_eq_true rfl, Nat.le_of_ble_eq_true rfl⟩ rfl (Nat.le_of_ble_eq_true rfl) (fun σ' z2 a2 => ?_))
    obtain ⟨hs_, a2⟩ := a2
    rw [hs_]; clear hs_ σ'
    refine ok_if_ne 6 17 rfl rfl rfl (fun h12 => ?_) (fun h12 => ?_)
    · have he := yes1 a1 h5
      have hr := yes1 a2 h12
      obtain ⟨t1, t2, t3⟩ := id he.1
      have tn := hB.1 s t1 t2
      have rb := rowB_bd hB ⟨t1, t2⟩ (i := 0) ⟨by omega, by omega⟩
      have hev := wo_ev hB he
      have hag := wo_wkB hB he.1
      have f := wo_fr σ s (σ 1 s) (σ 1 s * σ 1 s)
      refine ok_aload_n 9 rfl rfl rfl (ok_iload_n 10 rfl rfl rfl (ok_callVV (M' := M_Mo_worksOn) (as := [_]) 11 rfl rfl ml_X12_294 (s_Mo_worksOn hB he.1) rfl rfl (Nat.le_of_ble_eq_true rfl) ⟨Nat.le_of_ble_eq_true rfl, Nat.le_of_ble_eq_true rfl⟩ rfl (Nat.le_of_ble_eq_true rfl) (fun σ' hz => ?_)))
      rw [hz]
      clear hz σ'
      obtain ⟨τ, eτ⟩ : ∃ τ, τ = wo σ s (σ 1 s) (σ 1 s * σ 1 s) := ⟨_, rfl⟩
      rw [← eτ] at hev hag f ⊢
      have e22 : τ 0 22 = σ 1 s := by rw [eτ]; simp [wo]
      have hB' : iB1 τ := hB.fr (fun c k q => f c k (by simp only [rgS]; omega))
      have er : rowB τ s 0 = rowB σ s 0 := by
        unfold rowB cB
        rw [f 1 s (by simp)]
        exact sm_cg (fun k _ _ => by rw [f 3 _ (by simp)])
      have hnW : nW τ := ⟨by omega, by omega⟩
      refine ok_aload_n 12 rfl rfl rfl (ok_iload_n 13 rfl rfl rfl (ok_iconst 14 rfl rfl (by decide) (ok_aload_n 15 rfl rfl rfl (ok_iload_n 16 rfl rfl rfl (ok_iconst 17 rfl rfl (by decide) (ok_callVL (M' := M_Mo_rowOf) (as := [_, _]) 18 rfl rfl ml_X12_114 (s_Mo_rowOf hB' ⟨t1, t2⟩ (by rw [f 1 s (by simp)]; omega)) rfl rfl (Nat.le_of_ble_eq_true rfl) ⟨Nat.le_of_ble_eq_true rfl, Nat.le_of_ble_eq_true rfl⟩ rfl (Nat.le_of_ble_eq_true rfl) (fun σ' z hz => ?_)))))))
      rw [hz.1, hz.2, er]; clear hz z σ'
      refine ok_l2i 19 rfl rfl (by first | omega | (simp [up_if]; omega) | (simp [up_if] at *; omega)) (ok_callVI (M' := M_Mo_keepsAll) (as := [_, _, _]) 20 rfl rfl ml_X12_297 (t_Mo_keepsAll hnW hr (by rw [e22]; exact hev) ⟨by have := he.2.1; omega, by omega⟩) rfl rfl (Nat.le_of_ble_eq_true rfl) ⟨Nat.le_of_ble_eq_true rfl, Nat.le_of_ble_eq_true rfl⟩ rfl (Nat.le_of_ble_eq_true rfl) (fun σ' z hz => ?_))
      obtain ⟨hz, hP⟩ := hz
      rw [e22] at hP
      refine ok_iret 21 rfl rfl rfl ?_
      exact ⟨_, rfl, Or.inr ⟨⟨he, hr⟩, ⟨(f.mono (fun c k q => by simp only [rgS, rgP] at q ⊢; omega)).tr (hz.1.mono (fun c k q => by simp only [rgK, rgP] at q ⊢; omega)), fun _ => hz.iK hnW ⟨by omega, by omega⟩ (fun q => by omega)⟩, ⟨hz.2.2.2.2.2.2.1, by rw [hz.2.2.2.2.1, e22], hz.2.1.symm, hz.2.2.2.2.2.1⟩, PE_w0 (fun i j a b c d => hag i j a b c d) hP⟩⟩
    · refine ok_iconst 7 rfl rfl (by decide) (ok_iret 8 rfl rfl rfl ?_)
      exact ⟨_, rfl, Or.inl ⟨fun c => no1 a2 h12 c.2, rfl, rfl⟩⟩
theorem cnt_no {σ : eS} {s : Int} (hn : 0 ≤ σ 1 s ∧ σ 1 s ≤ 8) (h : cntB σ s = 0) : ¬ anyP (σ 1 s) (cB σ s) := by
  rintro ⟨i, j, a, b, c⟩
  obtain ⟨y1, y2, y3, y4⟩ := ix8 (n := σ 1 s) (i := i) (j := j) hn a b
  have x := sm_le (f := fun k => if 0 < σ 3 (64 * s + k) then (1 : Int) else 0) (n := (σ 1 s * σ 1 s).toNat) (fun k _ _ => by (try dsimp only); split <;> omega) (σ 1 s * i + j) (by omega) (by omega)
  unfold cB at c
  try dsimp only at x
  rw [if_pos (by rw [← Int.add_assoc]; exact c)] at x
  unfold cntB at h
  omega
def shB' (σ : eS) (s L : Int) : Int → Int → Int := tg (σ 1 s) L (cB σ s) (rowB σ s) (colB σ s) (σ 1 s) 0
def XsB (σ : eS) (s r : Int) (σ' : eS) (z : Int) : Prop := (¬ okS (tabB σ s) (anyP (σ 1 s) (cB σ s)) (σ 1 s) r ∧ σ' = σ ∧ z = -1) ∨ (okS (tabB σ s) (anyP (σ 1 s) (cB σ s)) (σ 1 s) r ∧ ∃ L, grS (rowB σ s) (colB σ s) (σ 1 s) L ∧ mpB σ σ' 2 (2 * σ 1 s) L r z (shB' σ s L) ∧ σ' 0 31 = σ 1 s)
theorem t_Mo_shop {σ : eS} {s r : Int} (hB : iB1 σ) : MtI shB M_Mo_shop [vr 0, vi s, vi r] σ (XsB σ s r) := by
  refine Mt.of okM_Mo_shop (Nat.le_of_ble_eq_true rfl) (fun hk hg => ?_)
  refine ok_aload_n 0 rfl rfl rfl (ok_iload_n 1 rfl rfl rfl (ok_callVI (M' := M_Mo_isTable) (as := [_]) 2 rfl rfl ml_X12_111 (s_Mo_isTable_r) rfl rfl (Nat.le_of_ble_eq_true rfl) ⟨Nat.le_of_ble_eq_true rfl, Nat.le_of_ble_eq_true rfl⟩ rfl (Nat.le_of_ble_eq_true rfl) (fun σ' z1 a1 => ?_)))
  obtain ⟨hs_, a1⟩ := a1
  rw [hs_]; clear hs_ σ'
  refine ok_if_eq 3 33 rfl rfl rfl (fun h5 => ?_) (fun h5 => ?_)
  · refine ok_iconst 17 rfl rfl (by decide) (ok_iret 18 rfl rfl rfl ?_)
    exact ⟨_, rfl, Or.inl ⟨fun c => no1 a1 h5 c.1, rfl, rfl⟩⟩
  · obtain ⟨u1, u2, u3⟩ := yes1 a1 h5
    have tn := hB.1 s u1 u2
    refine ok_aload_n 4 rfl rfl rfl (ok_getR 5 rfl rfl fl_X12_7 rfl rfl (ok_iload_n 6 rfl rfl rfl (ok_iald 7 rfl rfl rfl (by first | omega | (simp [up_if]; omega) | (simp [up_if] at *; omega)) (ok_iconst 8 rfl rfl (by decide) (ok_icmp_gt 9 33 rfl rfl rfl (fun h15 => ?_) (fun h15 => ?_))))))
    · refine ok_iconst 17 rfl rfl (by decide) (ok_iret 18 rfl rfl rfl ?_)
      exact ⟨_, rfl, Or.inl ⟨fun c => by have := c.2.1; omega, rfl, rfl⟩⟩
    · refine ok_aload_n 10 rfl rfl rfl (ok_iload_n 11 rfl rfl rfl (ok_callVI (M' := M_Mo_aboveNought) (as := [_]) 12 rfl rfl ml_X12_205 (s_Mo_aboveNought hB ⟨u1, u2⟩) rfl rfl (Nat.le_of_ble_eq_true rfl) ⟨Nat.le_of_ble_eq_true rfl, Nat.le_of_ble_eq_true rfl⟩ rfl (Nat.le_of_ble_eq_true rfl) (fun σ' z hz => ?_)))
      rw [hz.1, hz.2]
      clear hz z σ'
      refine ok_if_eq 13 33 rfl rfl rfl (fun h23 => ?_) (fun h23 => ?_)
      · refine ok_iconst 17 rfl rfl (by decide) (ok_iret 18 rfl rfl rfl ?_)
        exact ⟨_, rfl, Or.inl ⟨fun c => cnt_no ⟨by omega, by omega⟩ h23 c.2.2.1, rfl, rfl⟩⟩
      · refine ok_iload_n 14 rfl rfl rfl (ok_callSI (M' := M_Mo_isRule) (as := [_]) 15 rfl rfl ml_X12_291 (s_Mo_isRule) ⟨Nat.le_of_ble_eq_true rfl, Nat.le_of_ble_eq_true rfl⟩ rfl (Nat.le_of_ble_eq_true rfl) (fun σ' z2 a2 => ?_))
        obtain ⟨hs_, a2⟩ := a2
        rw [hs_]; clear hs_ σ'
        refine ok_if_ne 16 35 rfl rfl rfl (fun h30 => ?_) (fun h30 => ?_)
        · refine ok_aload_n 19 rfl rfl rfl (ok_getR 20 rfl rfl fl_X12_7 rfl rfl (ok_iload_n 21 rfl rfl rfl (ok_iald 22 rfl rfl rfl (by first | omega | (simp [up_if]; omega) | (simp [up_if] at *; omega)) (ok_ist3 23 rfl rfl rfl (ok_lconst (w := 0) 24 rfl rfl rfl (by decide) (ok_lst4 25 rfl rfl rfl (ok_iconst 26 rfl rfl (by decide) (ok_ist6 27 rfl rfl rfl ?_))))))))
          obtain ⟨i0, j0, p1, p2, p3, p4, p5⟩ := cnt_ex ⟨by omega, by omega⟩ h23
          have hr := yes1 a2 h30
          obtain ⟨n, en⟩ : ∃ n, n = σ 1 s := ⟨_, rfl⟩
          rw [← en]
          have n1 : 1 ≤ n ∧ n ≤ 4 := by omega
          refine lpO2 (fun v i : Int => [some (vr 0), some (vi s), some (vi r), some (vi n), some (vl v), none, some (vi i), none]) (fun _ _ => σ) (fun v i => 0 ≤ i ∧ i ≤ n ∧ 0 ≤ v ∧ v ≤ 799999992 ∧ grS (rowB σ s) (colB σ s) i v) (fun _ i => (n - i).toNat) ?_ 0 0 ⟨by omega, by omega, by omega, by omega, fun k a b => by omega, Or.inl rfl⟩
          rintro v i ⟨i1, i2, v1, v2, vm, vx⟩ ih
          refine ok_iload 28 rfl rfl rfl (ok_iload_n 29 rfl rfl rfl (ok_icmp_ge 30 84 rfl rfl rfl (fun h51 => ?_) (fun h51 => ?_)))
          · have ei : i = n := by omega
            have vrow : ∀ k, 0 ≤ k → k < n → rowB σ s k ≤ v := fun k a b => (vm k a (by omega)).1
            have vcol : ∀ k, 0 ≤ k → k < n → colB σ s k ≤ v := fun k a b => (vm k a (by omega)).2
            have vp : 1 ≤ v := by
              have := sm_le (f := fun j => cB σ s i0 j) (n := (σ 1 s).toNat) (fun k a b => (cB_bd hB ⟨u1, u2⟩ ⟨p1, p2⟩ ⟨a, by omega⟩).1) j0 p3 (by omega)
              have h2 := vrow i0 p1 (by omega)
              unfold rowB at h2
              omega
            have hgr : grS (rowB σ s) (colB σ s) n v := by rw [← ei]; exact ⟨vm, vx⟩
            clear vm vx ih
            refine ok_aload_n 45 rfl rfl rfl (ok_iconst 46 rfl rfl (by decide) (ok_iload_n 47 rfl rfl rfl (ok_imul 48 rfl rfl (by first | omega | (simp [up_if]; omega) | (simp [up_if] at *; omega)) (ok_putI 49 rfl rfl fl_X12_234 rfl rfl rfl rfl (ok_iconst 50 rfl rfl (by decide) (ok_ist6 51 rfl rfl rfl ?_))))))
            refine lpO2 (fun (i : Int) (_ : eS) => [some (vr 0), some (vi s), some (vi r), some (vi n), some (vl v), none, some (vi i), none]) (fun _ ρ => ρ) (fun i ρ => 0 ≤ i ∧ i ≤ 64 ∧ fr rgS σ ρ ∧ ρ 0 22 = 2 * n ∧ ∀ k, 0 ≤ k → k < i → ρ 9 k = 0) (fun i _ => (64 - i).toNat) ?_ 0 _ ⟨by omega, by omega, fr_up fr.rf (by simp [rgS]), up_same _ _ _ _, fun k a b => by omega⟩
            rintro i ρ ⟨i1, i2, f, e22, hz⟩ ih
            refine ok_iload 52 rfl rfl rfl (ok_bipush 53 rfl rfl (by decide) (by decide) (ok_icmp_ge 54 115 rfl rfl rfl (fun h98 => ?_) (fun h98 => ?_)))
            · have w0 : ∀ a b, 0 ≤ a → a < 2 * n → 0 ≤ b → b < 2 * n → wk ρ a b = 0 := fun a b a1 a2 b1 b2 => by
                have g := ix8 (n := 2 * n) (i := a) (j := b) ⟨by omega, by omega⟩ ⟨a1, a2⟩ ⟨b1, b2⟩
                unfold wk
                rw [e22]
                exact hz _ (by omega) (by omega)
              clear hz ih
              refine ok_iconst 62 rfl rfl (by decide) (ok_ist6 63 rfl rfl rfl ?_)
              refine lpO2 (fun (i : Int) (_ : eS) => [some (vr 0), some (vi s), some (vi r), some (vi n), some (vl v), none, some (vi i), none]) (fun _ ρ => ρ) (fun i ρ => 0 ≤ i ∧ i ≤ n ∧ fr rgS σ ρ ∧ ρ 0 22 = 2 * n ∧ ∀ a b, 0 ≤ a → a < 2 * n → 0 ≤ b → b < 2 * n → wk ρ a b = tg n v (cB σ s) (rowB σ s) (colB σ s) i 0 a b) (fun i _ => (n - i).toNat) ?_ 0 _ ⟨by omega, by omega, f, e22, fun a b a1 a2 b1 b2 => by rw [w0 a b a1 a2 b1 b2, tg_0 ⟨a1, a2⟩ ⟨b1, b2⟩]⟩
              clear w0 f e22 i1 i2 ρ
              rintro i ρ ⟨i1, i2, f, e22, hw⟩ ih
              refine ok_iload 64 rfl rfl rfl (ok_iload_n 65 rfl rfl rfl (ok_icmp_ge 66 253 rfl rfl rfl (fun h121 => ?_) (fun h121 => ?_)))
              · have hagr : ag (2 * n) (wk (up ρ 0 31 n)) (tg n v (cB σ s) (rowB σ s) (colB σ s) n 0) := fun a b a1 a2 b1 b2 => by
                  have ei : i = n := by omega
                  have hw' := hw a b a1 a2 b1 b2
                  rw [ei] at hw'
                  rw [← hw']
                  unfold wk
                  rw [up_ne _ _ _ _ (show (9 : Nat) ≠ 0 by decide), up_nk _ _ _ _ (show (22 : Int) ≠ 31 by decide)]
                have hev : EvW (2 * n) (wk (up ρ 0 31 n)) v := by
                  refine EvW_cg (w := tg n v (cB σ s) (rowB σ s) (colB σ s) n 0) ?_ hagr
                  · have hr2 : rowB σ s = fun i => sm (fun j => cB σ s i j) n.toNat := by funext i; unfold rowB; rw [en]
                    have hc2 : colB σ s = fun j => sm (fun i => cB σ s i j) n.toNat := by funext i; unfold colB; rw [en]
                    rw [hr2] at vrow ⊢
                    rw [hc2] at vcol ⊢
                    exact tg_ev (by omega) (fun i j a b c d => (cB_bd hB ⟨u1, u2⟩ ⟨a, by omega⟩ ⟨c, by omega⟩).1) vrow vcol
                have f31 : fr rgP σ (up ρ 0 31 n) := fr_up (f.mono (fun c k q => by simp only [rgS, rgP] at q ⊢; omega)) (by simp [rgP])
                have e22' : up ρ 0 31 n 0 22 = 2 * n := by rw [up_nk _ _ _ _ (by decide)]; exact e22
                have e31 : up ρ 0 31 n 0 31 = n := up_same _ _ _ _
                have hnW : nW (up ρ 0 31 n) := ⟨by omega, by omega⟩
                refine ok_aload_n 144 rfl rfl rfl (ok_iload_n 145 rfl rfl rfl (ok_putI 146 rfl rfl fl_X12_363 rfl rfl rfl rfl (ok_aload_n 147 rfl rfl rfl (ok_iload_n 148 rfl rfl rfl (ok_iconst 149 rfl rfl (by decide) (ok_lload 150 rfl rfl rfl (ok_l2i 151 rfl rfl (by first | omega | (simp [up_if]; omega) | (simp [up_if] at *; omega)) (ok_callVI (M' := M_Mo_keepsAll) (as := [_, _, _]) 152 rfl rfl ml_X12_297 (t_Mo_keepsAll hnW hr (by rw [e22']; exact hev) ⟨vp, v2⟩) rfl rfl (Nat.le_of_ble_eq_true rfl) ⟨Nat.le_of_ble_eq_true rfl, Nat.le_of_ble_eq_true rfl⟩ rfl (Nat.le_of_ble_eq_true rfl) (fun σ' z hz => ?_)))))))))
                obtain ⟨hz, hP⟩ := hz
                rw [e22'] at hP
                refine ok_iret 153 rfl rfl rfl ?_
                refine ⟨_, rfl, Or.inr ⟨⟨⟨u1, u2, u3⟩, by omega, ⟨i0, j0, ⟨p1, p2⟩, ⟨p3, p4⟩, p5⟩, hr⟩, v, by rw [← en]; exact hgr, ⟨⟨f31.tr (hz.1.mono (fun c k q => by simp only [rgK, rgP] at q ⊢; omega)), fun _ => hz.iK hnW ⟨by omega, v2⟩ (fun _ => by rw [e31, e22']; omega)⟩, ⟨hz.2.2.2.2.2.2.1, by rw [hz.2.2.2.2.1, e22', en], hz.2.1.symm, hz.2.2.2.2.2.1⟩, ?_⟩, by rw [hz.1 0 31 (by simp [rgK]), e31, en]⟩⟩
                unfold shB'
                rw [← en]
                exact PE_w0 hagr hP
              · refine ok_iconst 67 rfl rfl (by decide) (ok_ist7 68 rfl rfl rfl ?_)
                refine lpO2 (fun (j : Int) (_ : eS) => [some (vr 0), some (vi s), some (vi r), some (vi n), some (vl v), none, some (vi i), some (vi j)]) (fun _ υ => υ) (fun j υ => 0 ≤ j ∧ j ≤ n ∧ fr rgS σ υ ∧ υ 0 22 = 2 * n ∧ ∀ a b, 0 ≤ a → a < 2 * n → 0 ≤ b → b < 2 * n → wk υ a b = tg n v (cB σ s) (rowB σ s) (colB σ s) i j a b) (fun j _ => (n - j).toNat) ?_ 0 _ ⟨by omega, by omega, f, e22, hw⟩
                clear hw f e22 ρ
                rintro j υ ⟨j1, j2, f, e22, hw⟩ ih2
                have bi1 := ix8 (n := 2 * n) (i := i) (j := j) ⟨by omega, by omega⟩ ⟨by omega, by omega⟩ ⟨by omega, by omega⟩
                have bi2 := ix8 (n := 2 * n) (i := i) (j := n + i) ⟨by omega, by omega⟩ ⟨by omega, by omega⟩ ⟨by omega, by omega⟩
                have bi3 := ix8 (n := 2 * n) (i := n + i) (j := i) ⟨by omega, by omega⟩ ⟨by omega, by omega⟩ ⟨by omega, by omega⟩
                have E : ∀ τ : eS, fr rgS σ τ → iB1 τ ∧ τ 1 s = n ∧ cB τ s = cB σ s ∧ rowB τ s = rowB σ s ∧ colB τ s = colB σ s := fun τ g => by
                  have e1 : ∀ k, τ 1 k = σ 1 k := fun k => g 1 k (by simp [rgS])
                  have e3 : ∀ k, τ 3 k = σ 3 k := fun k => g 3 k (by simp [rgS])
                  refine ⟨iB1_frS hB g (fun c k q => by simp only [rgS]; omega), by rw [e1, en], ?_, ?_, ?_⟩
                  · funext a b; unfold cB; rw [e1, e3]
                  · funext a; unfold rowB cB; simp only [e1, e3]
                  · funext a; unfold colB cB; simp only [e1, e3]
                refine ok_iload 69 rfl rfl rfl (ok_iload_n 70 rfl rfl rfl (ok_icmp_ge 71 191 rfl rfl rfl (fun h130 => ?_) (fun h130 => ?_)))
                · have ej : j = n := by omega
                  obtain ⟨eb, e1, ec, er, el⟩ := E υ f
                  have g1 := fun z => E (up υ 9 (2 * n * i + n + i) z) (fr_up f (by simp [rgS]))
                  have b1 := vrow i (by omega) (by omega)
                  have b2 := vcol i (by omega) (by omega)
                  have b3 := rowB_bd hB ⟨u1, u2⟩ (i := i) ⟨by omega, by omega⟩
                  have b4 := colB_bd hB ⟨u1, u2⟩ (j := i) ⟨by omega, by omega⟩
                  refine ok_aload_n 106 rfl rfl rfl (ok_getR 107 rfl rfl fl_X12_39 rfl rfl (ok_aload_n 108 rfl rfl rfl (ok_getI 109 rfl rfl fl_X12_234 rfl rfl (Or.inl rfl) ?_)))
                  rw [e22]
                  refine ok_iload 110 rfl rfl rfl (ok_imul 111 rfl rfl (by first | omega | (simp [up_if]; omega) | (simp [up_if] at *; omega)) (ok_iload_n 112 rfl rfl rfl (ok_iadd 113 rfl rfl (by first | omega | (simp [up_if]; omega) | (simp [up_if] at *; omega)) (ok_iload 114 rfl rfl rfl (ok_iadd 115 rfl rfl (by first | omega | (simp [up_if]; omega) | (simp [up_if] at *; omega)) (ok_lload 116 rfl rfl rfl (ok_aload_n 117 rfl rfl rfl (ok_iload_n 118 rfl rfl rfl (ok_iload 119 rfl rfl rfl (ok_callVL (M' := M_Mo_rowOf) (as := [_, _]) 120 rfl rfl ml_X12_114 (s_Mo_rowOf eb ⟨u1, u2⟩ ⟨by omega, by omega⟩) rfl rfl (Nat.le_of_ble_eq_true rfl) ⟨Nat.le_of_ble_eq_true rfl, Nat.le_of_ble_eq_true rfl⟩ rfl (Nat.le_of_ble_eq_true rfl) (fun σ' z hz => ?_)))))))))))
                  rw [hz.1, hz.2, er]; clear hz z σ'
                  refine ok_lsub 121 rfl rfl (by first | omega | (simp [up_if]; omega) | (simp [up_if] at *; omega)) (ok_l2i 122 rfl rfl (by first | omega | (simp [up_if]; omega) | (simp [up_if] at *; omega)) (ok_iast 123 rfl rfl rfl (by first | omega | (simp [up_if]; omega) | (simp [up_if] at *; omega)) (ok_aload_n 124 rfl rfl rfl (ok_getR 125 rfl rfl fl_X12_39 rfl rfl (ok_aload_n 126 rfl rfl rfl (ok_getI 127 rfl rfl fl_X12_234 rfl rfl (Or.inl rfl) ?_))))))
                  rw [up_ne _ _ _ _ (show (0 : Nat) ≠ 9 by decide), e22]
                  refine ok_iload_n 128 rfl rfl rfl (ok_iload 129 rfl rfl rfl (ok_iadd 130 rfl rfl (by first | omega | (simp [up_if]; omega) | (simp [up_if] at *; omega)) (ok_imul 131 rfl rfl (by first | omega | (simp [up_if]; omega) | (simp [up_if] at *; omega)) (ok_iload 132 rfl rfl rfl (ok_iadd 133 rfl rfl (by first | omega | (simp [up_if]; omega) | (simp [up_if] at *; omega)) (ok_lload 134 rfl rfl rfl (ok_aload_n 135 rfl rfl rfl (ok_iload_n 136 rfl rfl rfl (ok_iload 137 rfl rfl rfl (ok_callVL (M' := M_Mo_columnOf) (as := [_, _]) 138 rfl rfl ml_X12_122 (s_Mo_columnOf (g1 _).1 ⟨u1, u2⟩ ⟨by omega, by rw [(g1 _).2.1]; omega⟩) rfl rfl (Nat.le_of_ble_eq_true rfl) ⟨Nat.le_of_ble_eq_true rfl, Nat.le_of_ble_eq_true rfl⟩ rfl (Nat.le_of_ble_eq_true rfl) (fun σ' z hz => ?_)))))))))))
                  rw [hz.1, hz.2, (g1 _).2.2.2.2]; clear hz z σ'
                  refine ok_lsub 139 rfl rfl (by first | omega | (simp [up_if]; omega) | (simp [up_if] at *; omega)) (ok_l2i 140 rfl rfl (by first | omega | (simp [up_if]; omega) | (simp [up_if] at *; omega)) (ok_iast 141 rfl rfl rfl (by first | omega | (simp [up_if]; omega) | (simp [up_if] at *; omega)) (ok_inc6 142 rfl rfl rfl (by first | omega | (simp [up_if]; omega) | (simp [up_if] at *; omega)) (ok_goto 143 118 rfl rfl rfl ?_))))
                  rw [Int.add_assoc (2 * n * i) n i]
                  rw [ej] at hw
                  refine ok_fg [some (vr 0), some (vi s), some (vi r), some (vi n), some (vl v), none, some (vi (i + 1)), none] ⟨rfl, rfl, rfl, rfl, rfl, rfl, trivial⟩ (ih (i + 1) _ ⟨by omega, by omega, fr_up (fr_up f (by simp [rgS])) (by simp [rgS]), by rw [up_ne _ _ _ _ (by decide), up_ne _ _ _ _ (by decide)]; exact e22, fun a b a1 a2 b1 b2 => ?_⟩ (by omega))
                  rw [wk_up (by rw [up_ne _ _ _ _ (by decide)]; exact e22) ⟨by omega, by omega⟩ ⟨by omega, by omega⟩ ⟨b1, b2⟩, wk_up e22 ⟨by omega, by omega⟩ ⟨by omega, by omega⟩ ⟨b1, b2⟩, hw a b a1 a2 b1 b2]
                  exact tg_d ⟨by omega, by omega⟩ ⟨a1, a2⟩ ⟨b1, b2⟩
                · have bi4 := ix8 (n := 2 * n) (i := n + j) (j := n + i) ⟨by omega, by omega⟩ ⟨by omega, by omega⟩ ⟨by omega, by omega⟩
                  obtain ⟨eb, e1, ec, er, el⟩ := E υ f
                  have g1 := fun z => E (up υ 9 (2 * n * i + j) z) (fr_up f (by simp [rgS]))
                  refine ok_aload_n 72 rfl rfl rfl (ok_getR 73 rfl rfl fl_X12_39 rfl rfl (ok_aload_n 74 rfl rfl rfl (ok_getI 75 rfl rfl fl_X12_234 rfl rfl (Or.inl rfl) ?_)))
                  rw [e22]
                  refine ok_iload 76 rfl rfl rfl (ok_imul 77 rfl rfl (by first | omega | (simp [up_if]; omega) | (simp [up_if] at *; omega)) (ok_iload 78 rfl rfl rfl (ok_iadd 79 rfl rfl (by first | omega | (simp [up_if]; omega) | (simp [up_if] at *; omega)) (ok_aload_n 80 rfl rfl rfl (ok_iload_n 81 rfl rfl rfl (ok_iload 82 rfl rfl rfl (ok_iload 83 rfl rfl rfl (ok_callVI (M' := M_Mo_at) (as := [_, _, _]) 84 rfl rfl ml_X12_107 (s_Mo_at eb ⟨u1, u2⟩ ⟨by omega, by omega⟩ ⟨by omega, by omega⟩) rfl rfl (Nat.le_of_ble_eq_true rfl) ⟨Nat.le_of_ble_eq_true rfl, Nat.le_of_ble_eq_true rfl⟩ rfl (Nat.le_of_ble_eq_true rfl) (fun σ' z hz => ?_)))))))))
                  rw [hz.1, hz.2, ec]; clear hz z σ'
                  refine ok_iast 85 rfl rfl rfl (by first | omega | (simp [up_if]; omega) | (simp [up_if] at *; omega)) (ok_aload_n 86 rfl rfl rfl (ok_getR 87 rfl rfl fl_X12_39 rfl rfl (ok_aload_n 88 rfl rfl rfl (ok_getI 89 rfl rfl fl_X12_234 rfl rfl (Or.inl rfl) ?_))))
                  rw [up_ne _ _ _ _ (show (0 : Nat) ≠ 9 by decide), e22]
                  refine ok_iload_n 90 rfl rfl rfl (ok_iload 91 rfl rfl rfl (ok_iadd 92 rfl rfl (by first | omega | (simp [up_if]; omega) | (simp [up_if] at *; omega)) (ok_imul 93 rfl rfl (by first | omega | (simp [up_if]; omega) | (simp [up_if] at *; omega)) (ok_iload_n 94 rfl rfl rfl (ok_iadd 95 rfl rfl (by first | omega | (simp [up_if]; omega) | (simp [up_if] at *; omega)) (ok_iload 96 rfl rfl rfl (ok_iadd 97 rfl rfl (by first | omega | (simp [up_if]; omega) | (simp [up_if] at *; omega)) (ok_aload_n 98 rfl rfl rfl (ok_iload_n 99 rfl rfl rfl (ok_iload 100 rfl rfl rfl (ok_iload 101 rfl rfl rfl (ok_callVI (M' := M_Mo_at) (as := [_, _, _]) 102 rfl rfl ml_X12_107 (s_Mo_at (g1 _).1 ⟨u1, u2⟩ ⟨by omega, by rw [(g1 _).2.1]; omega⟩ ⟨by omega, by rw [(g1 _).2.1]; omega⟩) rfl rfl (Nat.le_of_ble_eq_true rfl) ⟨Nat.le_of_ble_eq_true rfl, Nat.le_of_ble_eq_true rfl⟩ rfl (Nat.le_of_ble_eq_true rfl) (fun σ' z hz => ?_)))))))))))))
                  rw [hz.1, hz.2, (g1 _).2.2.1]; clear hz z σ'
                  refine ok_iast 103 rfl rfl rfl (by first | omega | (simp [up_if]; omega) | (simp [up_if] at *; omega)) (ok_inc7 104 rfl rfl rfl (by first | omega | (simp [up_if]; omega) | (simp [up_if] at *; omega)) (ok_goto 105 127 rfl rfl rfl ?_))
                  rw [Int.add_assoc (2 * n * (n + j)) n i]
                  refine ih2 (j + 1) _ ⟨by omega, by omega, fr_up (fr_up f (by simp [rgS])) (by simp [rgS]), by rw [up_ne _ _ _ _ (by decide), up_ne _ _ _ _ (by decide)]; exact e22, fun a b a1 a2 b1 b2 => ?_⟩ (by omega)
                  rw [wk_up (by rw [up_ne _ _ _ _ (by decide)]; exact e22) ⟨by omega, by omega⟩ ⟨by omega, by omega⟩ ⟨b1, b2⟩, wk_up e22 ⟨by omega, by omega⟩ ⟨by omega, by omega⟩ ⟨b1, b2⟩, hw a b a1 a2 b1 b2]
                  exact tg_s ⟨by omega, by omega⟩ ⟨by omega, by omega⟩
            · refine ok_aload_n 55 rfl rfl rfl (ok_getR 56 rfl rfl fl_X12_39 rfl rfl (ok_iload 57 rfl rfl rfl (ok_iconst 58 rfl rfl (by decide) (ok_iast 59 rfl rfl rfl (by first | omega | (simp [up_if]; omega) | (simp [up_if] at *; omega)) (ok_inc6 60 rfl rfl rfl (by first | omega | (simp [up_if]; omega) | (simp [up_if] at *; omega)) (ok_goto 61 94 rfl rfl rfl ?_))))))
              refine ih (i + 1) _ ⟨by omega, by omega, fr_up f (by simp [rgS]), by rw [up_ne _ _ _ _ (by decide)]; exact e22, fun k a b => ?_⟩ (by omega)
              rw [up_if]
              by_cases q : k = i
              · rw [if_pos ⟨rfl, q⟩]
              · rw [if_neg (fun y => q y.2)]; exact hz k a (by omega)
          · have rb := rowB_bd hB ⟨u1, u2⟩ (i := i) ⟨i1, by omega⟩
            have cb := colB_bd hB ⟨u1, u2⟩ (j := i) ⟨i1, by omega⟩
            refine ok_lload 31 rfl rfl rfl (ok_aload_n 32 rfl rfl rfl (ok_iload_n 33 rfl rfl rfl (ok_iload 34 rfl rfl rfl (ok_callVL (M' := M_Mo_rowOf) (as := [_, _]) 35 rfl rfl ml_X12_114 (s_Mo_rowOf hB ⟨u1, u2⟩ ⟨by omega, by omega⟩) rfl rfl (Nat.le_of_ble_eq_true rfl) ⟨Nat.le_of_ble_eq_true rfl, Nat.le_of_ble_eq_true rfl⟩ rfl (Nat.le_of_ble_eq_true rfl) (fun σ' z hz => ?_)))))
            rw [hz.1, hz.2]
            clear hz z σ'
            refine ok_aload_n 36 rfl rfl rfl (ok_iload_n 37 rfl rfl rfl (ok_iload 38 rfl rfl rfl (ok_callVL (M' := M_Mo_columnOf) (as := [_, _]) 39 rfl rfl ml_X12_122 (s_Mo_columnOf hB ⟨u1, u2⟩ ⟨by omega, by omega⟩) rfl rfl (Nat.le_of_ble_eq_true rfl) ⟨Nat.le_of_ble_eq_true rfl, Nat.le_of_ble_eq_true rfl⟩ rfl (Nat.le_of_ble_eq_true rfl) (fun σ' z hz => ?_))))
            rw [hz.1, hz.2]
            clear hz z σ'
            refine ok_mmaxL 40 rfl rfl ml_X12_250 ⟨Nat.le_of_ble_eq_true rfl, Nat.le_of_ble_eq_true rfl⟩ (ok_mmaxL 41 rfl rfl ml_X12_250 ⟨Nat.le_of_ble_eq_true rfl, Nat.le_of_ble_eq_true rfl⟩ (ok_lst4 42 rfl rfl rfl (ok_inc6 43 rfl rfl rfl (by first | omega | (simp [up_if]; omega) | (simp [up_if] at *; omega)) (ok_goto 44 48 rfl rfl rfl ?_))))
            refine ih _ (i + 1) ⟨by omega, by omega, by omega, by omega, lt_ext (fun k a b => ?_) (by omega), grS_s i1 vx (by omega)⟩ (by omega)
            have := vm k a b
            omega
        · refine ok_iconst 17 rfl rfl (by decide) (ok_iret 18 rfl rfl rfl ?_)
          exact ⟨_, rfl, Or.inl ⟨fun c => no1 a2 h30 c.2.2.2, rfl, rfl⟩⟩
end
