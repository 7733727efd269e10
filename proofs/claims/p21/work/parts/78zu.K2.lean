/-! PARTS, the class -/
def pk (σ : eS) (q : Nat) (i j : Int) : Int := σ q (i * 8 + j)
theorem lb_FC : ∀ i : Fin 64, lb 72340172838076673 i.val = decide (i.val % 8 = 0) := by decide +kernel
theorem lb_m1 : ∀ i : Fin 64, lb (-1) i.val = true := by decide +kernel
theorem jb_row {r x y : Int} (hr : 0 ≤ r ∧ r < 8) (hx : 0 ≤ x ∧ x < 8) (hy : 0 ≤ y ∧ y < 8) : jb (lshl 255 (r * 8)) x y = decide (x = r) := by
  unfold jb
  obtain ⟨m, hm⟩ : ∃ m : Nat, r * 8 = (m : Int) := ⟨(r * 8).toNat, by omega⟩
  have hk : (x * 8 + y).toNat < 64 := by omega
  rw [hm, lb_shl 255 (by omega) hk, lb_255 ⟨(x * 8 + y).toNat - m, by omega⟩]
  by_cases q : x = r
  · rw [decide_eq_true q, decide_eq_true (by omega), decide_eq_true (by (try dsimp only); omega)]; rfl
  · rw [decide_eq_false q]
    by_cases w : m ≤ (x * 8 + y).toNat
    · rw [decide_eq_true w, decide_eq_false (by (try dsimp only); omega)]; rfl
    · rw [decide_eq_false w, Bool.false_and]
theorem jb_col {c x y : Int} (hc : 0 ≤ c ∧ c < 8) (hx : 0 ≤ x ∧ x < 8) (hy : 0 ≤ y ∧ y < 8) : jb (lshl 72340172838076673 c) x y = decide (y = c) := by
  unfold jb
  obtain ⟨m, hm⟩ : ∃ m : Nat, c = (m : Int) := ⟨c.toNat, by omega⟩
  have hk : (x * 8 + y).toNat < 64 := by omega
  rw [hm, lb_shl _ (by omega) hk, lb_FC ⟨(x * 8 + y).toNat - m, by omega⟩]
  by_cases q : y = (m : Int)
  · rw [decide_eq_true q, decide_eq_true (by omega), decide_eq_true (by (try dsimp only); omega)]; rfl
  · rw [decide_eq_false q]
    by_cases w : m ≤ (x * 8 + y).toNat
    · rw [decide_eq_true w, decide_eq_false (by (try dsimp only); omega)]; rfl
    · rw [decide_eq_false w, Bool.false_and]
theorem t_Jo_through {σ : eS} {J r c n : Int} {op : Int → Int → Prop} (hn : n ≤ 8) (hr : 0 ≤ r ∧ r < n) (hc : 0 ≤ c ∧ c < n) (hJ : jOf J n op) (ho : op r c) : MtL shA M_Jo_through [vl J, vi r, vi c] σ (fun σ' z => σ' = σ ∧ jOf z n (fun i j => op i j ∧ (i = r ↔ j = c))) := by
  refine Mt.of okM_Jo_through (Nat.le_of_ble_eq_true rfl) (fun hk hg => ?_)
  refine ok_ldc2 0 (255) rfl rfl kc_X1_11 (by decide) (ok_iload_n 1 rfl rfl rfl (ok_bipush 2 rfl rfl (by decide) (by decide) (ok_imul 3 rfl rfl (by first | omega | (simp [up_if]; omega) | (simp [up_if] at *; omega)) (ok_lshl 4 rfl rfl (ok_ldc2 5 (72340172838076673) rfl rfl kc_X1_13 (by decide) (ok_iload_n 6 rfl rfl rfl (ok_lshl 7 rfl rfl (ok_lor 8 rfl rfl (ok_lst4 9 rfl rfl rfl (ok_lload_n 10 rfl rfl rfl (ok_lload 11 rfl rfl rfl (ok_ldc2 12 (-1) rfl rfl kc_X1_15 (by decide) (ok_lxor 13 rfl rfl (ok_land 14 rfl rfl (ok_lconst (w := 1) 15 rfl rfl rfl (by decide) (ok_iload_n 16 rfl rfl rfl (ok_bipush 17 rfl rfl (by decide) (by decide) (ok_imul 18 rfl rfl (by first | omega | (simp [up_if]; omega) | (simp [up_if] at *; omega)) (ok_iload_n 19 rfl rfl rfl (ok_iadd 20 rfl rfl (by first | omega | (simp [up_if]; omega) | (simp [up_if] at *; omega)) (ok_lshl 21 rfl rfl (ok_lor 22 rfl rfl (ok_lret 23 rfl rfl rfl ?_)))))))))))))))))))))))
  refine ⟨_, rfl, rfl, rl_lor _ _, fun x y a b d e => ?_⟩
  rw [jb_set ⟨hr.1, by omega⟩ ⟨hc.1, by omega⟩ ⟨a, b⟩ ⟨d, e⟩, Bool.or_eq_true, decide_eq_true_eq]
  have e1 : jb (land J (lxor (lor (lshl 255 (r * 8)) (lshl 72340172838076673 c)) (-1))) x y = (jb J x y && !(decide (x = r) || decide (y = c))) := by
    rw [← jb_row (r := r) (x := x) (y := y) ⟨hr.1, by omega⟩ ⟨a, b⟩ ⟨d, e⟩, ← jb_col (c := c) (x := x) (y := y) ⟨hc.1, by omega⟩ ⟨a, b⟩ ⟨d, e⟩]
    unfold jb
    rw [lb_and, lb_xor, lb_or, lb_m1 ⟨(x * 8 + y).toNat, by omega⟩, Bool.xor_true]
  rw [e1, Bool.and_eq_true, Bool.not_eq_true', Bool.or_eq_false_iff, decide_eq_false_iff_not, decide_eq_false_iff_not, hJ.2 x y a b d e]
  constructor
  · rintro (⟨⟨q1, q2, q3⟩, q4, q5⟩ | ⟨q1, q2⟩)
    · exact ⟨q1, q2, q3, ⟨fun w => absurd w q4, fun w => absurd w q5⟩⟩
    · subst q1
      subst q2
      exact ⟨hr.2, hc.2, ho, ⟨fun _ => rfl, fun _ => rfl⟩⟩
  · rintro ⟨q1, q2, q3, q4⟩
    by_cases w : x = r
    · exact Or.inr ⟨w, q4.mp w⟩
    · exact Or.inl ⟨⟨q1, q2, q3⟩, w, fun v => w (q4.mpr v)⟩
/-- the scan for the least cell, up to row i and column j -/
def lPs (n m : Int) (W : Int → Int → Int) (i j v l : Int) : Prop := (l = m + 1 ∧ ∀ x y, 0 ≤ x → x < n → 0 ≤ y → y < n → (x < i ∨ (x = i ∧ y < j)) → W x y ≤ 0) ∨ ((0 ≤ v ∧ v / 8 < n ∧ v % 8 < n) ∧ (v / 8 < i ∨ (v / 8 = i ∧ v % 8 < j)) ∧ l = W (v / 8) (v % 8) ∧ 1 ≤ l ∧ l ≤ m ∧ ∀ x y, 0 ≤ x → x < n → 0 ≤ y → y < n → (x < i ∨ (x = i ∧ y < j)) → 1 ≤ W x y → l < W x y ∨ (l = W x y ∧ (v / 8 < x ∨ (v / 8 = x ∧ v % 8 ≤ y))))
theorem lPs_new {n m i j v l : Int} {W : Int → Int → Int} (hn : n ≤ 8) (hi : 0 ≤ i ∧ i < n) (hj : 0 ≤ j ∧ j < n) (h : lPs n m W i j v l) (h1 : 0 < W i j) (h2 : W i j < l) : lPs n m W i (j + 1) (i * 8 + j) (W i j) := by
  have e1 : (i * 8 + j) / 8 = i := by omega
  have e2 : (i * 8 + j) % 8 = j := by omega
  refine Or.inr ⟨?_, ?_, ?_, by omega, ?_, ?_⟩
  · rw [e1, e2]; omega
  · rw [e1, e2]; omega
  · rw [e1, e2]
  · rcases h with ⟨q, -⟩ | ⟨-, -, -, -, q, -⟩ <;> omega
  · intro x y a b c d s p
    rw [e1, e2]
    by_cases z : x = i ∧ y = j
    · rw [z.1, z.2]; exact Or.inr ⟨rfl, Or.inr ⟨rfl, Int.le_refl _⟩⟩
    · have s' : x < i ∨ (x = i ∧ y < j) := by omega
      rcases h with ⟨-, q⟩ | ⟨-, -, -, -, -, q⟩
      · have := q x y a b c d s'; omega
      · have := q x y a b c d s' p; left; omega
theorem lPs_old {n m i j v l : Int} {W : Int → Int → Int} (h : lPs n m W i j v l) (hi : 0 ≤ i ∧ i < n) (hj : 0 ≤ j ∧ j < n) (hb : W i j ≤ m) (h1 : W i j ≤ 0 ∨ l ≤ W i j) : lPs n m W i (j + 1) v l := by
  rcases h with ⟨q1, q2⟩ | ⟨q1, q2, q3, q4, q5, q6⟩
  · refine Or.inl ⟨q1, fun x y a b c d s => ?_⟩
    by_cases z : x = i ∧ y = j
    · rw [z.1, z.2]; omega
    · exact q2 x y a b c d (by omega)
  · refine Or.inr ⟨q1, by omega, q3, q4, q5, fun x y a b c d s p => ?_⟩
    by_cases z : x = i ∧ y = j
    · obtain ⟨z1, z2⟩ := z
      subst z1
      subst z2
      omega
    · exact q6 x y a b c d (by omega) p
theorem lPs_row {n m i v l : Int} {W : Int → Int → Int} (h : lPs n m W i n v l) : lPs n m W (i + 1) 0 v l := by
  rcases h with ⟨q1, q2⟩ | ⟨q1, q2, q3, q4, q5, q6⟩
  · exact Or.inl ⟨q1, fun x y a b c d s => q2 x y a b c d (by omega)⟩
  · exact Or.inr ⟨q1, by omega, q3, q4, q5, fun x y a b c d s p => q6 x y a b c d (by omega) p⟩
theorem lPs_end {n m v l : Int} {W : Int → Int → Int} (h : lPs n m W n 0 v l) (hex : ∃ x y, (0 ≤ x ∧ x < n) ∧ (0 ≤ y ∧ y < n) ∧ 1 ≤ W x y) : 0 ≤ v ∧ lstP n W (v / 8) (v % 8) := by
  rcases h with ⟨q1, q2⟩ | ⟨q1, q2, q3, q4, q5, q6⟩
  · obtain ⟨x, y, a, b, c⟩ := hex
    have := q2 x y a.1 a.2 b.1 b.2 (by omega)
    omega
  · refine ⟨q1.1, ⟨by omega, q1.2.1⟩, ⟨by omega, q1.2.2⟩, by omega, fun x y a b c d p => ?_⟩
    have := q6 x y a b c d (by omega) p
    rw [← q3]
    exact this
theorem t_Pe_leastPlace {σ : eS} {p q : Nat} {m : Int} (hp : pP p q) (hn : 1 ≤ σ p 2 ∧ σ p 2 ≤ 8) (hm : σ p 3 = m) (hm2 : 0 ≤ m ∧ m ≤ 799999992) (hc : ∀ i j, 0 ≤ i → i < σ p 2 → 0 ≤ j → j < σ p 2 → pk σ q i j ≤ m) (hex : ∃ x y, (0 ≤ x ∧ x < σ p 2) ∧ (0 ≤ y ∧ y < σ p 2) ∧ 1 ≤ pk σ q x y) : MtI shA M_Pe_leastPlace [vr p] σ (fun σ' z => σ' = σ ∧ 0 ≤ z ∧ lstP (σ p 2) (pk σ q) (z / 8) (z % 8)) := by
  refine Mt.of okM_Pe_leastPlace (Nat.le_of_ble_eq_true rfl) (fun hk hg => ?_)
  refine ok_iconst 0 rfl rfl (by decide) (ok_ist1 1 rfl rfl rfl (ok_aload_n 2 rfl rfl rfl (ok_getI 3 rfl rfl fl_X5_19 (sP hp) rfl (Or.inl rfl) (ok_iconst 4 rfl rfl (by decide) (ok_iadd 5 rfl rfl (by omega) (ok_ist2 6 rfl rfl rfl (ok_iconst 7 rfl rfl (by decide) (ok_ist3 8 rfl rfl rfl ?_))))))))
  rw [hm]
  refine lpO3 (fun v l i : Int => [some (vr p), some (vi v), some (vi l), some (vi i), none, none]) (fun _ _ _ => σ) (fun v l i => 0 ≤ i ∧ i ≤ σ p 2 ∧ lPs (σ p 2) m (pk σ q) i 0 v l) (fun _ _ i => (8 - i).toNat) ?_ 0 _ 0 ⟨by omega, by omega, Or.inl ⟨rfl, fun x y a b c d s => by omega⟩⟩
  rintro v l i ⟨i1, i2, v1⟩ ih
  refine ok_iload_n 9 rfl rfl rfl (ok_aload_n 10 rfl rfl rfl (ok_getI 11 rfl rfl fl_X5_15 (sP hp) rfl (Or.inl rfl) (ok_icmp_ge 12 79 rfl rfl rfl (fun h16 => ?_) (fun h16 => ?_))))
  · refine ok_iload_n 45 rfl rfl rfl (ok_iret 46 rfl rfl rfl ?_)
    refine ⟨_, rfl, rfl, lPs_end (m := m) (l := l) ?_ hex⟩
    have e : i = σ p 2 := by omega
    rw [← e] at v1 ⊢
    exact v1
  · refine ok_iconst 13 rfl rfl (by decide) (ok_ist4 14 rfl rfl rfl ?_)
    have il : i < σ p 2 := by omega
    refine lpO3 (fun v l j : Int => [some (vr p), some (vi v), some (vi l), some (vi i), some (vi j), none]) (fun _ _ _ => σ) (fun v l j => 0 ≤ j ∧ j ≤ σ p 2 ∧ lPs (σ p 2) m (pk σ q) i j v l) (fun _ _ j => (8 - j).toNat) ?_ v l 0 ⟨by omega, by omega, v1⟩
    clear v1 l v
    rintro v l j ⟨j1, j2, v1⟩ ih2
    refine ok_iload 15 rfl rfl rfl (ok_aload_n 16 rfl rfl rfl (ok_getI 17 rfl rfl fl_X5_15 (sP hp) rfl (Or.inl rfl) (ok_icmp_ge 18 73 rfl rfl rfl (fun h28 => ?_) (fun h28 => ?_))))
    · refine ok_inc3 43 rfl rfl rfl (by first | omega | (simp [up_if]; omega) | (simp [up_if] at *; omega)) (ok_goto 44 11 rfl rfl rfl ?_)
      have e : j = σ p 2 := by omega
      rw [e] at v1
      exact ok_fg [some (vr p), some (vi _), some (vi _), some (vi (i + 1)), none, none] ⟨rfl, rfl, rfl, rfl, trivial⟩ (ih _ _ (i + 1) ⟨by omega, by omega, lPs_row v1⟩ (by omega))
    · have jl : j < σ p 2 := by omega
      have cb : σ q (i * 8 + j) ≤ m := hc i j i1 il j1 jl
      refine ok_aload_n 19 rfl rfl rfl (ok_getR 20 rfl rfl fl_X5_9 (sP hp) rfl (ok_iload_n 21 rfl rfl rfl (ok_bipush 22 rfl rfl (by decide) (by decide) (ok_imul 23 rfl rfl (by first | omega | (simp [up_if]; omega) | (simp [up_if] at *; omega)) (ok_iload 24 rfl rfl rfl (ok_iadd 25 rfl rfl (by first | omega | (simp [up_if]; omega) | (simp [up_if] at *; omega)) (ok_iald 26 rfl rfl (sQ hp) (by first | omega | (simp [up_if]; omega) | (simp [up_if] at *; omega)) (ok_ist5 27 rfl rfl rfl (ok_iload 28 rfl rfl rfl (ok_if_le 29 67 rfl rfl rfl (fun h47 => ?_) (fun h47 => ?_)))))))))))
      · refine ok_inc4 41 rfl rfl rfl (by first | omega | (simp [up_if]; omega) | (simp [up_if] at *; omega)) (ok_goto 42 22 rfl rfl rfl ?_)
        exact ok_fg [some (vr p), some (vi _), some (vi _), some (vi i), some (vi (j + 1)), none] ⟨rfl, rfl, rfl, rfl, rfl, trivial⟩ (ih2 _ _ (j + 1) ⟨by omega, by omega, lPs_old v1 ⟨i1, il⟩ ⟨j1, jl⟩ cb (Or.inl h47)⟩ (by omega))
      · refine ok_iload 30 rfl rfl rfl (ok_iload_n 31 rfl rfl rfl (ok_icmp_ge 32 67 rfl rfl rfl (fun h53 => ?_) (fun h53 => ?_)))
        · refine ok_inc4 41 rfl rfl rfl (by first | omega | (simp [up_if]; omega) | (simp [up_if] at *; omega)) (ok_goto 42 22 rfl rfl rfl ?_)
          exact ok_fg [some (vr p), some (vi _), some (vi _), some (vi i), some (vi (j + 1)), none] ⟨rfl, rfl, rfl, rfl, rfl, trivial⟩ (ih2 _ _ (j + 1) ⟨by omega, by omega, lPs_old v1 ⟨i1, il⟩ ⟨j1, jl⟩ cb (Or.inr h53)⟩ (by omega))
        · refine ok_iload 33 rfl rfl rfl (ok_ist2 34 rfl rfl rfl (ok_iload_n 35 rfl rfl rfl (ok_bipush 36 rfl rfl (by decide) (by decide) (ok_imul 37 rfl rfl (by first | omega | (simp [up_if]; omega) | (simp [up_if] at *; omega)) (ok_iload 38 rfl rfl rfl (ok_iadd 39 rfl rfl (by first | omega | (simp [up_if]; omega) | (simp [up_if] at *; omega)) (ok_ist1 40 rfl rfl rfl (ok_inc4 41 rfl rfl rfl (by first | omega | (simp [up_if]; omega) | (simp [up_if] at *; omega)) (ok_goto 42 22 rfl rfl rfl ?_)))))))))
          exact ok_fg [some (vr p), some (vi _), some (vi _), some (vi i), some (vi (j + 1)), none] ⟨rfl, rfl, rfl, rfl, rfl, trivial⟩ (ih2 _ _ (j + 1) ⟨by omega, by omega, lPs_new hn.2 ⟨i1, il⟩ ⟨j1, jl⟩ v1 (show 0 < σ q (i * 8 + j) by omega) (show σ q (i * 8 + j) < l by omega)⟩ (by omega))
/-- the counter of searches -/
def cSe (σ σ' : eS) (d : Int) : Prop := iSe σ' ∧ σ 16 3 ≤ σ' 16 3 ∧ σ' 16 3 ≤ σ 16 3 + d
theorem cpl_ev {n m : Int} {W : Int → Int → Int} (hn : 1 ≤ n) (he : EvW n W m) (hm : 1 ≤ m) : cpl n (fun i j => 1 ≤ W i j) n.toNat 0 := by
  obtain ⟨f, hf, hp⟩ := birk he (by omega) (by omega)
  exact cpl_of (by omega) hf (fun i a b => by have := hp i a b; omega)
theorem cpl_thr {n m a b : Int} {W : Int → Int → Int} (hn : 1 ≤ n) (he : EvW n W m) (h : lstP n W a b) : cpl n (thr W a b) n.toNat 0 := by
  obtain ⟨f, hf, hf0, hp⟩ := birk2 (i0 := a) (j0 := b) he h.1 h.2.1 (by have := h.2.2.1; omega)
  refine cpl_of (by omega) hf (fun i x c => ⟨by have := hp i x c; omega, fun q => by rw [q]; exact hf0, fun q => ?_⟩)
  rcases (show i < a ∨ i = a ∨ a < i by omega) with y | y | y
  · exact absurd (by rw [q, hf0]) (hf.2 i a x y h.1.2)
  · exact y
  · exact absurd (by rw [q, hf0]) (hf.2 a i h.1.1 y c)
/-- the widest level is above 0, and some choice lies at it -/
theorem wd_ps {n : Int} {W : Int → Int → Int} {v : Int → Int} (hn : 1 ≤ n ∧ n ≤ 8) (hw : ∀ i j, 0 ≤ i → i < n → 0 ≤ j → j < n → 0 ≤ W i j) (hc : cpl n (fun i j => 1 ≤ W i j) n.toNat 0) (ha : v (p2 n - 1) = 9223372036854775807) (hd : ∀ T, 0 ≤ T → T < p2 n - 1 → dpO n 0 (fun i j => 1 ≤ W i j) W v T) : 1 ≤ v 0 ∧ cpl n (fun i j => v 0 ≤ W i j) n.toNat 0 := by
  have b2 := bit2 (n := n) ⟨by omega, hn.2⟩
  have b24 := b2.2.2.2 hn.1
  have hv := (dp_ge (l := 1) (sums := 0) (v := v) (w := W) hn hw (by rw [if_pos rfl]; exact ha) (fun T a b => hd T a b) n.toNat 0 (by omega) (by omega) (by simp [pc]) hc).2 rfl (by decide)
  exact ⟨hv, dp_le (x := v 0) (v := v) (l := 1) (w := W) hv hn (fun T a b => hd T a b) n.toNat 0 (by omega) (by omega) (by simp [pc]) (Int.le_refl _)⟩
theorem rc_ps {n : Int} {W : Int → Int → Int} {v : Int → Int} (hn : 1 ≤ n ∧ n ≤ 8) (hw : ∀ i j, 0 ≤ i → i < n → 0 ≤ j → j < n → 0 ≤ W i j) (hc : cpl n (fun i j => 1 ≤ W i j) n.toNat 0) (ha : v (p2 n - 1) = 0) (hd : ∀ T, 0 ≤ T → T < p2 n - 1 → dpO n 1 (fun i j => 1 ≤ W i j) W v T) : 0 ≤ v 0 := by
  have b2 := bit2 (n := n) ⟨by omega, hn.2⟩
  have b24 := b2.2.2.2 hn.1
  exact (dp_ge (l := 1) (sums := 1) (v := v) (w := W) hn hw (by rw [if_neg (by decide)]; exact ha) (fun T a b => hd T a b) n.toNat 0 (by omega) (by omega) (by simp [pc]) hc).1
def bd64 (σ : eS) (q : Nat) : Prop := ∀ k : Int, 0 ≤ k → k < 64 → 0 ≤ σ q k ∧ σ q k ≤ 799999992
def QCh (p q : Nat) (r : Int) (σ σ' : eS) (z : Int) : Prop := fr rgCh σ σ' ∧ iCh σ' ∧ cSe σ σ' 1 ∧ z = 1 ∧ chS (σ p 2) (pk σ q) r (fun i => σ' 17 i)
theorem t_Pe_choose {σ : eS} {p q : Nat} {r m : Int} (hp : pP p q) (hr : 0 ≤ r ∧ r ≤ 3) (hn : 1 ≤ σ p 2 ∧ σ p 2 ≤ 8) (hb : bd64 σ q) (hm : σ p 3 = m) (hm2 : 1 ≤ m ∧ m ≤ 799999992) (he : EvW (σ p 2) (pk σ q) m) (hC : iCh σ) (hS : iSe σ) (hS2 : σ 16 3 < 2147483647) : MtI shA M_Pe_choose [vr p, vi r] σ (QCh p q r σ) := by
  refine Mt.of okM_Pe_choose (Nat.le_of_ble_eq_true rfl) (fun hk hg => ?_)
  obtain ⟨n0, n1, n2, n3, n4⟩ := pP_n hp
  have hn0 : 0 ≤ σ p 2 ∧ σ p 2 ≤ 8 := ⟨by omega, hn.2⟩
  have hcp := cpl_ev hn.1 he hm2.1
  have hw0 := he.1
  have hex : ∃ x y, (0 ≤ x ∧ x < σ p 2) ∧ (0 ≤ y ∧ y < σ p 2) ∧ 1 ≤ pk σ q x y := by
    obtain ⟨f, hf, hq⟩ := birk he (by omega) (by omega)
    exact ⟨0, f 0, ⟨by omega, by omega⟩, hf.1 0 (by omega) (by omega), by have := hq 0 (by omega) (by omega); omega⟩
  have fF : ∀ {τ : eS} , fr rgFf σ τ → fr rgCh σ τ := fun {τ} f => f.mono (fun c k w => by simp only [rgFf, rgCh] at w ⊢; omega)
  refine ok_aload_n 0 rfl rfl rfl (ok_getR 1 rfl rfl fl_X5_9 (sP hp) rfl (ok_aload_n 2 rfl rfl rfl (ok_getI 3 rfl rfl fl_X5_15 (sP hp) rfl (Or.inl rfl) (ok_iconst 4 rfl rfl (by decide) (ok_callSL (M' := M_Jo_of) (as := [_, _, _]) 5 rfl rfl ml_X5_77 (t_Jo_of (sQ hp) hn0) ⟨Nat.le_of_ble_eq_true rfl, Nat.le_of_ble_eq_true rfl⟩ rfl (Nat.le_of_ble_eq_true rfl) (fun σ' J hJ => ?_))))))
  obtain ⟨hs_, hJ⟩ := hJ
  rw [hs_]; clear hs_ σ'
  refine ok_lst2 6 rfl rfl rfl (ok_iload_n 7 rfl rfl rfl ?_)
  rcases (by omega : r = 1 ∨ r = 2 ∨ r = 3 ∨ (r < 1 ∨ 3 < r)) with q_ | q_ | q_ | q_
  · subst q_
    refine ok_tin 8 (len := 26) 40 rfl rfl (by decide) (by decide) rfl rfl ?_
    refine ok_aload_n 9 rfl rfl rfl (ok_getR 10 rfl rfl fl_X5_28 (sP hp) rfl (ok_aload_n 11 rfl rfl rfl (ok_getR 12 rfl rfl fl_X5_9 (sP hp) rfl (ok_lload_n 13 rfl rfl rfl (ok_aload_n 14 rfl rfl rfl (ok_getI 15 rfl rfl fl_X5_15 (sP hp) rfl (Or.inl rfl) (ok_callVL (M' := M_Ch_greatestLeast) (as := [_, _, _]) 16 rfl rfl ml_X5_83 (t_Ch_greatestLeast (sQ hp) hn0 hJ (by omega) hb) rfl rfl (Nat.le_of_ble_eq_true rfl) ⟨Nat.le_of_ble_eq_true rfl, Nat.le_of_ble_eq_true rfl⟩ rfl (Nat.le_of_ble_eq_true rfl) (fun τ g f => ?_))))))))
    obtain ⟨f1, f2, f3, f4⟩ := f
    have b2 := bit2 (n := σ p 2) hn0
    have b24 := b2.2.2.2 hn.1
    have f5 := (f4 0 (by omega) (by omega)).2.2
    obtain ⟨w1, w2⟩ := wd_ps (v := fun k => τ 18 k) hn hw0 hcp f3 (fun T a b => (f4 T a b).1)
    have w1 : 1 ≤ τ 18 0 := w1
    have f0 : fr rgCh σ τ := f1.mono (fun c k w => by simp only [rgCh]; omega)
    have hC0 : iCh τ := iCh_cg hC (fun k => f1 _ _ (by simp))
    have ho0 : τ p 2 = σ p 2 := f1 _ _ (by omega)
    have hS0 : iSe τ := iSe_cg hS (f1 _ _ (by omega)) (fun k => f1 _ _ (by omega))
    have e163 : τ 16 3 = σ 16 3 := f1 _ _ (by omega)
    refine ok_l2i 17 rfl rfl (by omega) (ok_ist4 18 rfl rfl rfl (ok_iload 19 rfl rfl rfl (ok_if_le 20 95 rfl rfl rfl (fun h61 => ?_) (fun h61 => ?_))))
    · exfalso; omega
    · refine ok_aload_n 21 rfl rfl rfl (ok_getR 22 rfl rfl fl_X5_28 (sP hp) rfl (ok_aload_n 23 rfl rfl rfl (ok_getR 24 rfl rfl fl_X5_9 (sP hp) rfl (ok_aload_n 25 rfl rfl rfl (ok_getI 26 rfl rfl fl_X5_15 (sP hp) rfl (Or.inl rfl) (ok_iload 27 rfl rfl rfl (ok_callSL (M' := M_Jo_of) (as := [_, _, _]) 28 rfl rfl ml_X5_77 (t_Jo_of (sQ hp) (by omega)) ⟨Nat.le_of_ble_eq_true rfl, Nat.le_of_ble_eq_true rfl⟩ rfl (Nat.le_of_ble_eq_true rfl) (fun σ' J2 hJ2 => ?_))))))))
      obtain ⟨hs_, hJ2⟩ := hJ2
      rw [hs_]; clear hs_ σ'
      have hJ3 : jOf J2 (σ p 2) (fun i j => g ≤ pk σ q i j) := by
        rw [ho0] at hJ2
        refine ⟨hJ2.1, fun x y a b c d => ?_⟩
        have e := f1 q (x * 8 + y) (by omega)
        rw [hJ2.2 x y a b c d]
        (try dsimp only)
        rw [e]
        exact Iff.rfl
      refine ok_aload_n 29 rfl rfl rfl (ok_getI 30 rfl rfl fl_X5_15 (sP hp) rfl (Or.inl rfl) ?_)
      rw [ho0]
      refine ok_callVI (M' := M_Ch_findFirst) (as := [_, _]) 31 rfl rfl ml_X5_87 (t_Ch_findFirst hC0 hn0 hJ3 hS0 (by omega)) rfl rfl (Nat.le_of_ble_eq_true rfl) ⟨Nat.le_of_ble_eq_true rfl, Nat.le_of_ble_eq_true rfl⟩ rfl (Nat.le_of_ble_eq_true rfl) (fun τ2 z2 f2 => ?_)
      obtain ⟨k1, k2, k3, k4, k5⟩ := f2
      have w3 : cpl (σ p 2) (fun i j => g ≤ pk σ q i j) (σ p 2).toNat 0 := by rw [f2]; exact w2
      have k6 : z2 = 1 ∧ fstC (σ p 2) (okJ (σ p 2) (fun i j => g ≤ pk σ q i j)) (fun i => τ2 17 i) := by
        rcases k5 with ⟨-, x⟩ | ⟨x, -, y⟩
        · exact absurd w3 x
        · exact ⟨x, y⟩
      have k7 : fr rgCh σ τ2 := f0.tr (k1.mono (fun c k w => by simp only [rgFf, rgCh] at w ⊢; omega))
      refine ok_if_eq 32 95 rfl rfl rfl (fun h88 => ?_) (fun h88 => ?_)
      · exfalso; omega
      · refine ok_iconst 33 rfl rfl (by decide) (ok_goto 34 96 rfl rfl rfl (ok_zret 36 rfl rfl rfl (by first | omega | (simp [up_if]; omega) | (simp [up_if] at *; omega)) ?_))
        exact ⟨_, rfl, k7, k2, ⟨k4, by omega, by omega⟩, rfl, Or.inr (Or.inl ⟨by omega, g, by omega, ⟨fun k => τ 18 k, f3, fun T a b => (f4 T a b).1, f2⟩, k6.2⟩)⟩
  · subst q_
    refine ok_tin 8 (len := 26) 97 rfl rfl (by decide) (by decide) rfl rfl ?_
    refine ok_aload_n 37 rfl rfl rfl (ok_callVI (M' := M_Pe_leastPlace) (as := []) 38 rfl rfl ml_X5_91 (t_Pe_leastPlace (m := m) hp hn hm ⟨by omega, hm2.2⟩ (fun i j a b c d => EvW_bd he ⟨a, b⟩ ⟨c, d⟩) hex) (sP hp) rfl (Nat.le_of_ble_eq_true rfl) ⟨Nat.le_of_ble_eq_true rfl, Nat.le_of_ble_eq_true rfl⟩ rfl (Nat.le_of_ble_eq_true rfl) (fun σ' k hk1 => ?_))
    obtain ⟨hs_, hk1⟩ := hk1
    rw [hs_]; clear hs_ σ'
    obtain ⟨k0, k1⟩ := hk1
    refine ok_ist5 39 rfl rfl rfl (ok_aload_n 40 rfl rfl rfl (ok_getR 41 rfl rfl fl_X5_28 (sP hp) rfl (ok_lload_n 42 rfl rfl rfl (ok_iload 43 rfl rfl rfl (ok_bipush 44 rfl rfl (by decide) (by decide) (ok_idiv 45 rfl rfl (by first | omega | (simp [up_if]; omega) | (simp [up_if] at *; omega)) (by first | omega | (simp [up_if]; omega) | (simp [up_if] at *; omega)) (ok_iload 46 rfl rfl rfl (ok_bipush 47 rfl rfl (by decide) (by decide) (ok_irem 48 rfl rfl (by first | omega | (simp [up_if]; omega) | (simp [up_if] at *; omega)) (by first | omega | (simp [up_if]; omega) | (simp [up_if] at *; omega)) (ok_callSL (M' := M_Jo_through) (as := [_, _, _]) 49 rfl rfl ml_X5_94 (t_Jo_through hn.2 k1.1 k1.2.1 hJ k1.2.2.1) ⟨Nat.le_of_ble_eq_true rfl, Nat.le_of_ble_eq_true rfl⟩ rfl (Nat.le_of_ble_eq_true rfl) (fun σ' J3 hJ3 => ?_)))))))))))
    obtain ⟨hs_, hJ3⟩ := hJ3
    rw [hs_]; clear hs_ σ'
    refine ok_aload_n 50 rfl rfl rfl (ok_getI 51 rfl rfl fl_X5_15 (sP hp) rfl (Or.inl rfl) (ok_callVI (M' := M_Ch_findFirst) (as := [_, _]) 52 rfl rfl ml_X5_87 (t_Ch_findFirst hC hn0 hJ3 hS hS2) rfl rfl (Nat.le_of_ble_eq_true rfl) ⟨Nat.le_of_ble_eq_true rfl, Nat.le_of_ble_eq_true rfl⟩ rfl (Nat.le_of_ble_eq_true rfl) (fun τ2 z2 f2 => ?_)))
    obtain ⟨l1, l2, l3, l4, l5⟩ := f2
    have l6 : z2 = 1 ∧ fstC (σ p 2) (okJ (σ p 2) (thr (pk σ q) (k / 8) (k % 8))) (fun i => τ2 17 i) := by
      rcases l5 with ⟨-, x⟩ | ⟨x, -, y⟩
      · exact absurd (cpl_thr hn.1 he k1) x
      · exact ⟨x, y⟩
    refine ok_zret 53 rfl rfl rfl (by omega) ?_
    exact ⟨_, rfl, fF l1, l2, ⟨l4, by omega, by omega⟩, l6.1, Or.inr (Or.inr (Or.inl ⟨by omega, k / 8, k % 8, k1, l6.2⟩))⟩
  · subst q_
    refine ok_tin 8 (len := 26) 129 rfl rfl (by decide) (by decide) rfl rfl ?_
    refine ok_aload_n 54 rfl rfl rfl (ok_getR 55 rfl rfl fl_X5_28 (sP hp) rfl (ok_aload_n 56 rfl rfl rfl (ok_getR 57 rfl rfl fl_X5_9 (sP hp) rfl (ok_lload_n 58 rfl rfl rfl (ok_aload_n 59 rfl rfl rfl (ok_getI 60 rfl rfl fl_X5_15 (sP hp) rfl (Or.inl rfl) (ok_callVL (M' := M_Ch_findRichest) (as := [_, _, _]) 61 rfl rfl ml_X5_98 (t_Ch_findRichest (sQ hp) hC hn0 hJ (by omega) (by omega) hb) rfl rfl (Nat.le_of_ble_eq_true rfl) ⟨Nat.le_of_ble_eq_true rfl, Nat.le_of_ble_eq_true rfl⟩ rfl (Nat.le_of_ble_eq_true rfl) (fun τ2 z2 f2 => ?_))))))))
    obtain ⟨g1, g2, g3, g4, g5, g6⟩ := f2
    have g7 := rc_ps (v := fun k => τ2 18 k) hn hw0 hcp g4 (fun T a b => (g5 T a b).1)
    have g7 : 0 ≤ τ2 18 0 := g7
    refine ok_ldc2 62 (-1) rfl rfl kc_X5_101 (by decide) (ok_lcmp_eq 63 64 156 rfl rfl rfl rfl rfl (fun h148 => ?_) (fun h148 => ?_))
    · exfalso; omega
    · refine ok_iconst 65 rfl rfl (by decide) (ok_goto 66 157 rfl rfl rfl (ok_zret 68 rfl rfl rfl (by first | omega | (simp [up_if]; omega) | (simp [up_if] at *; omega)) ?_))
      exact ⟨_, rfl, g1.mono (fun c k w => by simp only [rgFr, rgCh] at w ⊢; omega), g2, ⟨iSe_cg hS (g1 _ _ (by simp [rgFr])) (fun k => g1 _ _ (by simp [rgFr])), by rw [g1 16 3 (by simp [rgFr])]; omega, by rw [g1 16 3 (by simp [rgFr])]; omega⟩, rfl, Or.inr (Or.inr (Or.inr ⟨by omega, fun k => τ2 18 k, g4, fun T a b => (g5 T a b).1, g6 (by omega)⟩))⟩
  · refine ok_tout 8 (len := 26) 158 rfl rfl q_ rfl ?_
    refine ok_aload_n 69 rfl rfl rfl (ok_getR 70 rfl rfl fl_X5_28 (sP hp) rfl (ok_lload_n 71 rfl rfl rfl (ok_aload_n 72 rfl rfl rfl (ok_getI 73 rfl rfl fl_X5_15 (sP hp) rfl (Or.inl rfl) (ok_callVI (M' := M_Ch_findFirst) (as := [_, _]) 74 rfl rfl ml_X5_87 (t_Ch_findFirst hC hn0 hJ hS hS2) rfl rfl (Nat.le_of_ble_eq_true rfl) ⟨Nat.le_of_ble_eq_true rfl, Nat.le_of_ble_eq_true rfl⟩ rfl (Nat.le_of_ble_eq_true rfl) (fun τ2 z2 f2 => ?_))))))
    obtain ⟨l1, l2, l3, l4, l5⟩ := f2
    have l6 : z2 = 1 ∧ fstC (σ p 2) (okJ (σ p 2) (fun i j => 1 ≤ pk σ q i j)) (fun i => τ2 17 i) := by
      rcases l5 with ⟨-, x⟩ | ⟨x, -, y⟩
      · exact absurd hcp x
      · exact ⟨x, y⟩
    refine ok_zret 75 rfl rfl rfl (by omega) ?_
    exact ⟨_, rfl, fF l1, l2, ⟨l4, by omega, by omega⟩, l6.1, Or.inl ⟨by omega, l6.2⟩⟩
/-- one part taken: what the peeler and the choices are behind it -/
def QTp (p q : Nat) (r m : Int) (σ σ' : eS) : Prop := fr (rgPe p q) σ σ' ∧ iCh σ' ∧ cSe σ σ' 1 ∧ bd64 σ' q ∧ σ' p 3 = m - σ' p 5 ∧ σ' p 4 = wr (σ p 4 + 1) ∧ stp (σ p 2) r (pk σ q) (pk σ' q) (fun i => σ' 17 i) (σ' p 5)
theorem pk_ij {n i j a b : Int} (hn : n ≤ 8) (hj : 0 ≤ j ∧ j < n) (hb : 0 ≤ b ∧ b < n) (h : i * 8 + j = a * 8 + b) : i = a ∧ j = b := by omega
theorem t_Pe_takePart {σ : eS} {p q : Nat} {r m : Int} (hp : pP p q) (hr : 0 ≤ r ∧ r ≤ 3) (hn : 1 ≤ σ p 2 ∧ σ p 2 ≤ 8) (hb : bd64 σ q) (hm : σ p 3 = m) (hm2 : 1 ≤ m ∧ m ≤ 799999992) (he : EvW (σ p 2) (pk σ q) m) (hC : iCh σ) (hS : iSe σ) (hS2 : σ 16 3 < 2147483647) : MtV shA M_Pe_takePart [vr p, vi r] σ (fun σ' => QTp p q r m σ σ') := by
  refine Mt.of okM_Pe_takePart (Nat.le_of_ble_eq_true rfl) (fun hk hg => ?_)
  obtain ⟨n0, n1, n2, n3, n4⟩ := pP_n hp
  obtain ⟨n, en⟩ : ∃ n, n = σ p 2 := ⟨_, rfl⟩
  obtain ⟨W, eW⟩ : ∃ W, W = pk σ q := ⟨_, rfl⟩
  rw [← en] at hn he
  rw [← eW] at he
  obtain ⟨σ1, e1⟩ : ∃ τ, τ = up σ p 5 0 := ⟨_, rfl⟩
  have f1 : fr (fun c k => c = p ∧ k = 5) σ σ1 := by rw [e1]; exact fr_up fr.rf ⟨rfl, rfl⟩
  have k2 : σ1 p 2 = n := by rw [f1 p 2 (by omega), en]
  have k3 : σ1 p 3 = m := by rw [f1 p 3 (by omega), hm]
  have kq : ∀ k, σ1 q k = σ q k := fun k => f1 q k (by omega)
  have kW : pk σ1 q = W := by rw [eW]; funext i j; exact kq _
  have kC : iCh σ1 := iCh_cg hC (fun k => f1 17 k (by omega))
  have kS : iSe σ1 := iSe_cg hS (f1 16 3 (by omega)) (fun k => f1 19 k (by omega))
  have k16 : σ1 16 3 = σ 16 3 := f1 16 3 (by omega)
  have kb : bd64 σ1 q := fun k a b => by rw [kq]; exact hb k a b
  refine ok_aload_n 0 rfl rfl rfl (ok_iconst 1 rfl rfl (by decide) (ok_putI 2 rfl rfl fl_X5_25 (sP hp) rfl rfl rfl ?_))
  rw [← e1]
  refine ok_aload_n 3 rfl rfl rfl (ok_getI 4 rfl rfl fl_X5_19 (sP hp) rfl (Or.inl rfl) (ok_if_le 5 20 rfl rfl rfl (fun h9 => ?_) (fun h9 => ?_)))
  · exfalso; omega
  · refine ok_aload_n 6 rfl rfl rfl (ok_iload_n 7 rfl rfl rfl (ok_callVI (M' := M_Pe_choose) (as := [_]) 8 rfl rfl ml_X5_62 (t_Pe_choose (m := m) hp hr (by rw [k2]; exact hn) kb k3 hm2 (by rw [k2, kW]; exact he) kC kS (by omega)) (sP hp) rfl (Nat.le_of_ble_eq_true rfl) ⟨Nat.le_of_ble_eq_true rfl, Nat.le_of_ble_eq_true rfl⟩ rfl (Nat.le_of_ble_eq_true rfl) (fun τ z f => ?_)))
    obtain ⟨g1, g2, g3, g4, g5⟩ := f
    rw [k2, kW] at g5
    refine ok_if_ne 9 26 rfl rfl rfl (fun h17 => ?_) (fun h17 => ?_)
    · have hl : τ p 3 = m := by rw [g1 p 3 (by simp only [rgCh]; omega), k3]
      have t2 : τ p 2 = n := by rw [g1 p 2 (by simp only [rgCh]; omega), k2]
      have t4 : τ p 4 = σ p 4 := by rw [g1 p 4 (by simp only [rgCh]; omega), f1 p 4 (by omega)]
      have tq : ∀ k, τ q k = σ q k := fun k => by rw [g1 q k (by simp only [rgCh]; omega), kq]
      have tW : ∀ i j, τ q (i * 8 + j) = W i j := fun i j => by rw [tq, eW]; rfl
      have fA : fr (rgPe p q) σ τ := (f1.mono (fun c k w => by simp only [rgPe]; omega)).tr (g1.mono (fun c k w => by simp only [rgCh, rgPe] at w ⊢; omega))
      obtain ⟨ps1, ps2⟩ := chS_ps hn g5
      have ps1 : perm n (fun i => τ 17 i) := ps1
      have ps3 : ∀ i, 0 ≤ i → i < n → (0 ≤ τ 17 i ∧ τ 17 i < n) ∧ 1 ≤ W i (τ 17 i) ∧ W i (τ 17 i) ≤ m := fun i a b => ⟨ps1.1 i a b, ps2 i a b, EvW_bd he ⟨a, b⟩ (ps1.1 i a b)⟩
      clear h17 h9 ps2
      refine ok_aload_n 14 rfl rfl rfl (ok_aload_n 15 rfl rfl rfl (ok_getI 16 rfl rfl fl_X5_19 (sP hp) rfl (Or.inl rfl) (ok_putI 17 rfl rfl fl_X5_25 (sP hp) rfl rfl rfl (ok_iconst 18 rfl rfl (by decide) (ok_ist2 19 rfl rfl rfl ?_)))))
      rw [hl]
      refine lpO2 (fun (i : Int) (_ : eS) => [some (vr p), some (vi r), some (vi i)]) (fun _ ρ => ρ) (fun i ρ => 0 ≤ i ∧ i ≤ n ∧ fr (fun c k => c = p ∧ k = 5) τ ρ ∧ 1 ≤ ρ p 5 ∧ ρ p 5 ≤ m ∧ (∀ k, 0 ≤ k → k < i → ρ p 5 ≤ W k (τ 17 k)) ∧ (0 < i → ∃ k, 0 ≤ k ∧ k < i ∧ ρ p 5 = W k (τ 17 k)) ∧ (i = 0 → ρ p 5 = m)) (fun i _ => (8 - i).toNat) ?_ 0 _ ⟨by omega, by omega, fr_up fr.rf ⟨rfl, rfl⟩, by rw [up_same]; omega, by rw [up_same]; omega, fun k a b => by omega, fun q => by omega, fun _ => up_same _ _ _ _⟩
      rintro i ρ ⟨i1, i2, g, w1, w2, w3, w4, w5⟩ ih
      have r2 : ρ p 2 = n := by rw [g p 2 (by omega), t2]
      have r17 : ∀ k, ρ 17 k = τ 17 k := fun k => g 17 k (by omega)
      have rq : ∀ k, ρ q k = τ q k := fun k => g q k (by omega)
      refine ok_iload_n 20 rfl rfl rfl (ok_aload_n 21 rfl rfl rfl (ok_getI 22 rfl rfl fl_X5_15 (sP hp) rfl (Or.inl rfl) (ok_icmp_ge 23 80 rfl rfl rfl (fun h41 => ?_) (fun h41 => ?_))))
      · refine ok_iconst 43 rfl rfl (by decide) (ok_ist2 44 rfl rfl rfl ?_)
        clear ih
        have ein : i = n := by omega
        obtain ⟨w, ew⟩ : ∃ w, w = ρ p 5 := ⟨_, rfl⟩
        rw [← ew] at w1 w2 w3 w4
        rw [ein] at w3 w4
        have w4 := w4 (by omega)
        clear h41 i1 i2 w5 ein i
        refine lpO2 (fun (i : Int) (_ : eS) => [some (vr p), some (vi r), some (vi i)]) (fun _ υ => υ) (fun i υ => 0 ≤ i ∧ i ≤ n ∧ fr (fun c _ => c = q) ρ υ ∧ bd64 υ q ∧ ∀ a j, 0 ≤ a → a < n → 0 ≤ j → j < n → υ q (a * 8 + j) = W a j - (if a < i ∧ j = τ 17 a then w else 0)) (fun i _ => (8 - i).toNat) ?_ 0 ρ ⟨by omega, by omega, fr.rf, fun k a b => by rw [rq, tq]; exact hb k a b, fun a j y1 y2 y3 y4 => by rw [if_neg (by omega), rq, tW]; omega⟩
        rintro i υ ⟨i1, i2, u, u1, u2⟩ ih
        have v2 : υ p 2 = n := by rw [u p 2 (by omega), r2]
        have v5 : υ p 5 = w := by rw [u p 5 (by omega), ew]
        have v3 : υ p 3 = m := by rw [u p 3 (by omega), g p 3 (by omega), hl]
        have v4 : υ p 4 = σ p 4 := by rw [u p 4 (by omega), g p 4 (by omega), t4]
        have v17 : ∀ k, υ 17 k = τ 17 k := fun k => by rw [u 17 k (by omega), r17]
        refine ok_iload_n 45 rfl rfl rfl (ok_aload_n 46 rfl rfl rfl (ok_getI 47 rfl rfl fl_X5_15 (sP hp) rfl (Or.inl rfl) (ok_icmp_ge 48 122 rfl rfl rfl (fun h87 => ?_) (fun h87 => ?_))))
        · refine ok_aload_n 68 rfl rfl rfl (ok_dup 69 rfl rfl rfl (ok_getI 70 rfl rfl fl_X5_19 (sP hp) rfl (Or.inl rfl) (ok_aload_n 71 rfl rfl rfl (ok_getI 72 rfl rfl fl_X5_25 (sP hp) rfl (Or.inl rfl) (ok_isub 73 rfl rfl (by first | omega | (simp [up_if]; omega) | (simp [up_if] at *; omega)) (ok_putI 74 rfl rfl fl_X5_19 (sP hp) rfl rfl rfl (ok_aload_n 75 rfl rfl rfl (ok_dup 76 rfl rfl rfl (ok_getI 77 rfl rfl fl_X5_22 (sP hp) rfl (Or.inl rfl) (ok_iconst 78 rfl rfl (by decide) (ok_iaddW 79 rfl rfl (ok_putI 80 rfl rfl fl_X5_22 (sP hp) rfl rfl rfl (ok_vret 81 rfl rfl rfl ?_)))))))))))))
          have ein : i = n := by omega
          have x5 : ∀ a b : Int, up (up υ p 3 a) p 4 b p 5 = w := fun a b => by rw [up_nk _ _ _ _ (by decide), up_nk _ _ _ _ (by decide), v5]
          have xq : ∀ a b k : Int, up (up υ p 3 a) p 4 b q k = υ q k := fun a b k => by rw [up_ne _ _ _ _ (by omega), up_ne _ _ _ _ (by omega)]
          have x17 : ∀ a b k : Int, up (up υ p 3 a) p 4 b 17 k = τ 17 k := fun a b k => by rw [up_ne _ _ _ _ (by omega), up_ne _ _ _ _ (by omega), v17]
          have x16 : ∀ a b : Int, ∀ c k, (c = 16 ∨ c = 19) → up (up υ p 3 a) p 4 b c k = τ c k := fun a b c k hc => by rw [up_ne _ _ _ _ (by omega), up_ne _ _ _ _ (by omega), u c k (by omega), g c k (by omega)]
          refine ⟨rfl, ?_, ?_, ?_, ?_, ?_, ?_, ?_⟩
          · refine fr_up (fr_up ?_ (by simp [rgPe])) (by simp [rgPe])
            exact (fA.tr (g.mono (fun c k w => by simp only [rgPe]; omega))).tr (u.mono (fun c k w => by simp only [rgPe]; omega))
          · exact iCh_cg g2 (fun k => x17 _ _ k)
          · obtain ⟨y1, y2, y3⟩ := g3
            refine ⟨iSe_cg y1 (x16 _ _ 16 3 (Or.inl rfl)) (fun k => x16 _ _ 19 k (Or.inr rfl)), ?_, ?_⟩
            · rw [x16 _ _ 16 3 (Or.inl rfl)]; omega
            · rw [x16 _ _ 16 3 (Or.inl rfl)]; omega
          · exact fun k a b => by rw [xq]; exact u1 k a b
          · rw [up_nk _ _ _ _ (by decide), up_same, x5]; omega
          · rw [up_same, up_nk _ _ _ _ (by decide), v4]
          · rw [x5, ← en, ← eW]
            refine ⟨chS_cc (fun i _ _ => x17 _ _ i) g5, ?_, fun i a b => ?_, fun a j y1 y2 y3 y4 => ?_⟩
            · obtain ⟨k, a, b, c⟩ := w4
              exact ⟨k, a, b, by (try dsimp only); rw [x17]; exact c⟩
            · (try dsimp only); rw [x17]; exact w3 i a b
            · show up (up υ p 3 _) p 4 _ q (a * 8 + j) = _
              try dsimp only
              simp only [xq, x17]
              rw [u2 a j y1 y2 y3 y4]
              by_cases y : j = τ 17 a
              · rw [if_pos y, if_pos ⟨by omega, y⟩]
              · rw [if_neg y, if_neg (fun x => y x.2)]
        · obtain ⟨c1, c2, c3⟩ := ps3 i i1 (by omega)
          have cw := u2 i (τ 17 i) i1 (by omega) c1.1 c1.2
          rw [if_neg (by omega)] at cw
          have cl := w3 i i1 (by omega)
          have c4 : 0 ≤ υ 17 i ∧ υ 17 i < n := by rw [v17]; exact c1
          have cw2 : υ q (i * 8 + υ 17 i) = W i (τ 17 i) := by rw [v17, cw]; omega
          refine ok_aload_n 49 rfl rfl rfl (ok_getR 50 rfl rfl fl_X5_9 (sP hp) rfl (ok_iload_n 51 rfl rfl rfl (ok_bipush 52 rfl rfl (by decide) (by decide) (ok_imul 53 rfl rfl (by first | omega | (simp [up_if]; omega) | (simp [up_if] at *; omega)) (ok_aload_n 54 rfl rfl rfl (ok_getR 55 rfl rfl fl_X5_28 (sP hp) rfl (ok_getR 56 rfl rfl fl_X5_66 rfl rfl (ok_iload_n 57 rfl rfl rfl (ok_iald 58 rfl rfl rfl (by first | omega | (simp [up_if]; omega) | (simp [up_if] at *; omega)) (ok_iadd 59 rfl rfl (by first | omega | (simp [up_if]; omega) | (simp [up_if] at *; omega)) (ok_dup2 60 rfl rfl ⟨rfl, rfl⟩ (ok_iald 61 rfl rfl (sQ hp) (by first | omega | (simp [up_if]; omega) | (simp [up_if] at *; omega)) (ok_aload_n 62 rfl rfl rfl (ok_getI 63 rfl rfl fl_X5_25 (sP hp) rfl (Or.inl rfl) (ok_isub 64 rfl rfl (by first | omega | (simp [up_if]; omega) | (simp [up_if] at *; omega)) (ok_iast 65 rfl rfl (sQ hp) (by first | omega | (simp [up_if]; omega) | (simp [up_if] at *; omega)) (ok_inc2 66 rfl rfl rfl (by first | omega | (simp [up_if]; omega) | (simp [up_if] at *; omega)) (ok_goto 67 82 rfl rfl rfl ?_))))))))))))))))))
          rw [v5, cw2, v17]
          refine ih (i + 1) _ ⟨by omega, by omega, fr_up u rfl, fun k a b => ?_, fun a j y1 y2 y3 y4 => ?_⟩ (by omega)
          · rw [up_if]
            by_cases y : k = i * 8 + τ 17 i
            · rw [if_pos ⟨rfl, y⟩]; omega
            · rw [if_neg (fun x => y x.2)]; exact u1 k a b
          · rw [up_if]
            by_cases y : a * 8 + j = i * 8 + τ 17 i
            · obtain ⟨ya, yj⟩ := pk_ij hn.2 ⟨y3, y4⟩ c1 y
              rw [if_pos ⟨rfl, y⟩, if_pos ⟨by omega, by rw [ya]; exact yj⟩, ya, yj]
            · rw [if_neg (fun x => y x.2), u2 a j y1 y2 y3 y4]
              by_cases y5 : a < i ∧ j = τ 17 a
              · rw [if_pos y5, if_pos ⟨by omega, y5.2⟩]
              · rw [if_neg y5, if_neg]
                rintro ⟨y6, y7⟩
                by_cases y8 : a = i
                · exact y (by rw [y7, y8])
                · exact y5 ⟨by omega, y7⟩
      · obtain ⟨c1, c2, c3⟩ := ps3 i i1 (by omega)
        rw [← r17] at c1
        have cw : ρ q (i * 8 + ρ 17 i) = W i (τ 17 i) := by rw [rq, r17, tW]
        refine ok_aload_n 24 rfl rfl rfl (ok_aload_n 25 rfl rfl rfl (ok_getI 26 rfl rfl fl_X5_25 (sP hp) rfl (Or.inl rfl) (ok_aload_n 27 rfl rfl rfl (ok_getR 28 rfl rfl fl_X5_9 (sP hp) rfl (ok_iload_n 29 rfl rfl rfl (ok_bipush 30 rfl rfl (by decide) (by decide) (ok_imul 31 rfl rfl (by first | omega | (simp [up_if]; omega) | (simp [up_if] at *; omega)) (ok_aload_n 32 rfl rfl rfl (ok_getR 33 rfl rfl fl_X5_28 (sP hp) rfl (ok_getR 34 rfl rfl fl_X5_66 rfl rfl (ok_iload_n 35 rfl rfl rfl (ok_iald 36 rfl rfl rfl (by first | omega | (simp [up_if]; omega) | (simp [up_if] at *; omega)) (ok_iadd 37 rfl rfl (by first | omega | (simp [up_if]; omega) | (simp [up_if] at *; omega)) (ok_iald 38 rfl rfl (sQ hp) (by first | omega | (simp [up_if]; omega) | (simp [up_if] at *; omega)) (ok_mmin 39 rfl rfl ml_X5_71 ⟨Nat.le_of_ble_eq_true rfl, Nat.le_of_ble_eq_true rfl⟩ (ok_putI 40 rfl rfl fl_X5_25 (sP hp) rfl rfl rfl (ok_inc2 41 rfl rfl rfl (by first | omega | (simp [up_if]; omega) | (simp [up_if] at *; omega)) (ok_goto 42 36 rfl rfl rfl ?_))))))))))))))))))
        rw [cw]
        refine ih (i + 1) _ ⟨by omega, by omega, fr_up g ⟨rfl, rfl⟩, by rw [up_same]; omega, by rw [up_same]; omega, ?_, ?_, fun y => by omega⟩ (by omega)
        · rw [up_same]
          refine up_to (fun k a b => ?_) ?_
          · have := w3 k a b; omega
          · omega
        · intro _
          rw [up_same]
          by_cases y : ρ p 5 ≤ W i (τ 17 i)
          · by_cases y0 : 0 < i
            · obtain ⟨k, a, b, c⟩ := w4 y0
              exact ⟨k, a, by omega, by omega⟩
            · have := w5 (by omega); exact ⟨i, i1, by omega, by omega⟩
          · exact ⟨i, i1, by omega, by omega⟩
    · exfalso; omega
