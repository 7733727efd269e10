/-! PARTS, the reference -/
def SC (f : Int → Int) (k b : Int) : Prop := (b = -1 ∧ ∀ q, 0 ≤ q → q < k → f q ≤ 0) ∨ (0 ≤ b ∧ b < k ∧ 1 ≤ f b ∧ ∀ q, 0 ≤ q → q < k → 1 ≤ f q → f b < f q ∨ (f b = f q ∧ b ≤ q))
theorem SC_no {f : Int → Int} {k b : Int} (h : SC f k b) (h1 : f k ≤ 0) : SC f (k + 1) b := by
  rcases h with ⟨q1, q2⟩ | ⟨q1, q2, q3, q4⟩
  · exact Or.inl ⟨q1, lt_ext q2 h1⟩
  · exact Or.inr ⟨q1, by omega, q3, lt_ext q4 (fun y => by omega)⟩
theorem SC_new {f : Int → Int} {k b : Int} (h : SC f k b) (hk : 0 ≤ k) (h1 : 1 ≤ f k) (h2 : b = -1 ∨ f k < f b) : SC f (k + 1) k := by
  refine Or.inr ⟨hk, by omega, h1, lt_ext (fun q a c d => ?_) (fun _ => Or.inr ⟨rfl, Int.le_refl _⟩)⟩
  rcases h with ⟨q1, q2⟩ | ⟨q1, q2, q3, q4⟩
  · have := q2 q a c; omega
  · have := q4 q a c d; left; omega
theorem SC_old {f : Int → Int} {k b : Int} (h : SC f k b) (h1 : b ≠ -1) (h2 : f b ≤ f k) : SC f (k + 1) b := by
  rcases h with ⟨q1, q2⟩ | ⟨q1, q2, q3, q4⟩
  · omega
  · exact Or.inr ⟨q1, by omega, q3, lt_ext q4 (fun y => by omega)⟩
theorem ix_le {n a c i j : Int} (hn : 1 ≤ n ∧ n ≤ 8) (hc : 0 ≤ c ∧ c < n) (hj : 0 ≤ j ∧ j < n) (h : n * a + c ≤ n * i + j) : a < i ∨ (a = i ∧ c ≤ j) := by
  have : n = 1 ∨ n = 2 ∨ n = 3 ∨ n = 4 ∨ n = 5 ∨ n = 6 ∨ n = 7 ∨ n = 8 := by omega
  rcases this with rfl | rfl | rfl | rfl | rfl | rfl | rfl | rfl <;> omega
theorem SC_end {σ : eS} {n b : Int} (hn : 1 ≤ n ∧ n ≤ 8) (en : n = σ 0 22) (h : SC (fun q => σ 9 q) (n * n) b) (hex : ∃ i j, (0 ≤ i ∧ i < n) ∧ (0 ≤ j ∧ j < n) ∧ 1 ≤ wk σ i j) : 0 ≤ b ∧ lstP n (wk σ) (b / n) (b % n) := by
  have wkk : ∀ i j, wk σ i j = σ 9 (n * i + j) := fun i j => by unfold wk; rw [← en]
  rcases h with ⟨q1, q2⟩ | ⟨q1, q2, q3, q4⟩
  · obtain ⟨i, j, a, c, d⟩ := hex
    have g := ix8 (n := n) (i := i) (j := j) ⟨by omega, hn.2⟩ a c
    have := q2 (n * i + j) (by omega) (by omega)
    rw [wkk] at d
    try dsimp only at this
    omega
  · have e1 : n * (b / n) + b % n = b := Int.mul_ediv_add_emod b n
    have e2 := Int.emod_nonneg b (by omega : n ≠ 0)
    have e3 := Int.emod_lt_of_pos b (by omega : 0 < n)
    have e4 : b / n < n := Int.ediv_lt_of_lt_mul (by omega) (by omega)
    have e5 : 0 ≤ b / n := Int.ediv_nonneg q1 (by omega)
    refine ⟨q1, ⟨e5, e4⟩, ⟨e2, e3⟩, by rw [wkk, e1]; exact q3, fun i j x1 x2 x3 x4 x5 => ?_⟩
    have g := ix8 (n := n) (i := i) (j := j) ⟨by omega, hn.2⟩ ⟨x1, x2⟩ ⟨x3, x4⟩
    rw [wkk] at x5
    rw [wkk, wkk, e1]
    rcases q4 (n * i + j) (by omega) (by omega) x5 with y | ⟨y1, y2⟩
    · exact Or.inl y
    · refine Or.inr ⟨y1, ix_le hn ⟨e2, e3⟩ ⟨x3, x4⟩ (by rw [e1]; exact y2)⟩
theorem opB_m {σ : eS} {n l : Int} : ∀ i j, 0 ≤ i → i < n → 0 ≤ j → j < n → (opB σ l (-1) (-1) i j ↔ l ≤ wk σ i j) := fun i j a b c d => ⟨fun q => q.1, fun q => ⟨q, by omega⟩⟩
def Qcs (σ : eS) (r : Int) (σ' : eS) : Prop := fr (fun c _ => c = 10 ∨ c = 11) σ σ' ∧ chS (σ 0 22) (wk σ) r (fun i => σ' 11 i)
theorem t_Mo_choose {σ : eS} {r m : Int} (h : nW σ) (hr : 0 ≤ r ∧ r ≤ 3) (hw : wBd σ) (he : EvW (σ 0 22) (wk σ) m) (hm : 1 ≤ m) : MtV shB M_Mo_choose [vr 0, vi r] σ (fun σ' => Qcs σ r σ') := by
  refine Mt.of okM_Mo_choose (Nat.le_of_ble_eq_true rfl) (fun hk hg => ?_)
  obtain ⟨n, en⟩ : ∃ x, x = σ 0 22 := ⟨_, rfl⟩
  have hn : 1 ≤ n ∧ n ≤ 8 := by rw [en]; exact h
  have hn0 : 0 ≤ n ∧ n ≤ 8 := ⟨by omega, hn.2⟩
  obtain ⟨z1, z2, z3, z4⟩ := bit2 (n := n) (by omega)
  have z4 := z4 hn.1
  obtain ⟨sq1, sq2⟩ := sq8 (n := n) ⟨by omega, by omega⟩
  unfold Qcs
  rw [← en] at he ⊢
  have hwb : ∀ i j, 0 ≤ i → i < n → 0 ≤ j → j < n → 0 ≤ wk σ i j ∧ wk σ i j ≤ 799999992 := fun i j a1 a2 a3 a4 => hw i j a1 (by omega) a3 (by omega)
  have hcp := cpl_pos (σ := σ) hn.1 he hm
  have hc1 := cpl_ev hn.1 he hm
  have hex : ∃ i j, (0 ≤ i ∧ i < n) ∧ (0 ≤ j ∧ j < n) ∧ 1 ≤ wk σ i j := by
    obtain ⟨f, hf, hq⟩ := birk he (by omega) (by omega)
    exact ⟨0, f 0, ⟨by omega, by omega⟩, hf.1 0 (by omega) (by omega), by have := hq 0 (by omega) (by omega); omega⟩
  refine ok_iload_n 0 rfl rfl rfl (ok_if_ne 1 15 rfl rfl rfl (fun h1 => ?_) (fun h1 => ?_))
  · refine ok_iload_n 9 rfl rfl rfl (ok_iconst 10 rfl rfl (by decide) (ok_icmp_ne 11 43 rfl rfl rfl (fun h17 => ?_) (fun h17 => ?_)))
    · refine ok_iload_n 27 rfl rfl rfl (ok_iconst 28 rfl rfl (by decide) (ok_icmp_ne 29 123 rfl rfl rfl (fun h45 => ?_) (fun h45 => ?_)))
      · refine ok_aload_n 75 rfl rfl rfl (ok_iconst 76 rfl rfl (by decide) (ok_callVL (M' := M_Mo_chooseGreatest) (as := [_]) 77 rfl rfl ml_X12_263 (t_Mo_chooseGreatest h hw (by decide) (by rw [← en]; exact hc1)) rfl rfl (Nat.le_of_ble_eq_true rfl) ⟨Nat.le_of_ble_eq_true rfl, Nat.le_of_ble_eq_true rfl⟩ rfl (Nat.le_of_ble_eq_true rfl) (fun τ z hz => ?_)))
        rw [← en] at hz
        obtain ⟨g1, g2, g3, g4, g5, g6⟩ := hz
        have hq : chS n (wk σ) r (fun i => τ 11 i) := Or.inr (Or.inr (Or.inr ⟨by omega, fun k => τ 10 k, g4, g5, g6⟩))
        have hf := g1
        refine ok_pop2 78 rfl rfl (ok_vret 79 rfl rfl rfl ?_)
        exact ⟨rfl, hf, hq⟩
      · refine ok_iconst 30 rfl rfl (by decide) (ok_ist2 31 rfl rfl rfl (ok_iconst 32 rfl rfl (by decide) (ok_ist3 33 rfl rfl rfl ?_)))
        refine lpO2 (fun b k : Int => [some (vr 0), some (vi r), some (vi b), some (vi k)]) (fun _ _ => σ) (fun b k => 0 ≤ k ∧ k ≤ n * n ∧ SC (fun q => σ 9 q) k b) (fun _ k => (n * n - k).toNat) ?_ (-1) 0 ⟨by omega, by omega, Or.inl ⟨rfl, fun q a b => by omega⟩⟩
        rintro b k ⟨i1, i2, i3⟩ ih
        have ib1 : b = -1 ∨ (0 ≤ b ∧ b < k) := by rcases i3 with ⟨q, -⟩ | ⟨q1, q2, -⟩ <;> omega
        refine ok_iload_n 34 rfl rfl rfl (ok_aload_n 35 rfl rfl rfl (ok_getI 36 rfl rfl fl_X12_234 rfl rfl (Or.inl rfl) (ok_aload_n 37 rfl rfl rfl (ok_getI 38 rfl rfl fl_X12_234 rfl rfl (Or.inl rfl) (ok_imul 39 rfl rfl (by rw [← en]; omega) ?_)))))
        rw [← en]
        refine ok_icmp_ge 40 102 rfl rfl rfl (fun h62 => ?_) (fun h62 => ?_)
        · have ek : k = n * n := by omega
          rw [ek] at i3
          obtain ⟨hb, hl⟩ := SC_end hn en i3 hex
          have e3 := hl.1
          have e4 := hl.2.1
          clear ih
          refine ok_aload_n 62 rfl rfl rfl (ok_iconst 63 rfl rfl (by decide) (ok_iload_n 64 rfl rfl rfl (ok_aload_n 65 rfl rfl rfl (ok_getI 66 rfl rfl fl_X12_234 rfl rfl (Or.inl rfl) (ok_idiv 67 rfl rfl (by omega) (by rw [← en]; omega) (ok_iload_n 68 rfl rfl rfl (ok_aload_n 69 rfl rfl rfl (ok_getI 70 rfl rfl fl_X12_234 rfl rfl (Or.inl rfl) (ok_irem 71 rfl rfl (by omega) (by rw [← en]; omega) ?_)))))))))
          rw [← en]
          refine ok_callVI (M' := M_Mo_isChosen) (as := [_, _, _]) 72 rfl rfl ml_X12_260 (s_Mo_isChosen h) rfl rfl (Nat.le_of_ble_eq_true rfl) ⟨Nat.le_of_ble_eq_true rfl, Nat.le_of_ble_eq_true rfl⟩ rfl (Nat.le_of_ble_eq_true rfl) (fun τ z hz => ?_)
          rw [← en] at hz
          have hy := Qch_yes hn hz (cpl_thr hn.1 he hl)
          refine ok_pop 73 rfl rfl rfl (ok_goto 74 129 rfl rfl rfl (ok_vret 79 rfl rfl rfl ?_))
          exact ⟨rfl, hy.1, Or.inr (Or.inr (Or.inl ⟨by omega, b / n, b % n, hl, lex_fst hy.2.1⟩))⟩
        · refine ok_aload_n 41 rfl rfl rfl (ok_getR 42 rfl rfl fl_X12_39 rfl rfl (ok_iload_n 43 rfl rfl rfl (ok_iald 44 rfl rfl rfl (by first | omega | (simp [up_if]; omega) | (simp [up_if] at *; omega)) (ok_if_le 45 96 rfl rfl rfl (fun h71 => ?_) (fun h71 => ?_)))))
          · refine ok_inc3 60 rfl rfl rfl (by first | omega | (simp [up_if]; omega) | (simp [up_if] at *; omega)) (ok_goto 61 52 rfl rfl rfl ?_)
            exact ih b (k + 1) ⟨by omega, by omega, SC_no i3 h71⟩ (by omega)
          · refine ok_iload_n 46 rfl rfl rfl (ok_iconst 47 rfl rfl (by decide) (ok_icmp_eq 48 94 rfl rfl rfl (fun h76 => ?_) (fun h76 => ?_)))
            · refine ok_iload_n 58 rfl rfl rfl (ok_ist2 59 rfl rfl rfl (ok_inc3 60 rfl rfl rfl (by first | omega | (simp [up_if]; omega) | (simp [up_if] at *; omega)) (ok_goto 61 52 rfl rfl rfl ?_)))
              exact ih k (k + 1) ⟨by omega, by omega, SC_new i3 i1 (show 1 ≤ σ 9 k by omega) (Or.inl (by omega))⟩ (by omega)
            · refine ok_aload_n 49 rfl rfl rfl (ok_getR 50 rfl rfl fl_X12_39 rfl rfl (ok_iload_n 51 rfl rfl rfl (ok_iald 52 rfl rfl rfl (by first | omega | (simp [up_if]; omega) | (simp [up_if] at *; omega)) (ok_aload_n 53 rfl rfl rfl (ok_getR 54 rfl rfl fl_X12_39 rfl rfl (ok_iload_n 55 rfl rfl rfl (ok_iald 56 rfl rfl rfl (by first | omega | (simp [up_if]; omega) | (simp [up_if] at *; omega)) (ok_icmp_ge 57 96 rfl rfl rfl (fun h91 => ?_) (fun h91 => ?_)))))))))
              · refine ok_inc3 60 rfl rfl rfl (by first | omega | (simp [up_if]; omega) | (simp [up_if] at *; omega)) (ok_goto 61 52 rfl rfl rfl ?_)
                exact ih b (k + 1) ⟨by omega, by omega, SC_old i3 (by omega) (show σ 9 b ≤ σ 9 k by omega)⟩ (by omega)
              · refine ok_iload_n 58 rfl rfl rfl (ok_ist2 59 rfl rfl rfl (ok_inc3 60 rfl rfl rfl (by first | omega | (simp [up_if]; omega) | (simp [up_if] at *; omega)) (ok_goto 61 52 rfl rfl rfl ?_)))
                exact ih k (k + 1) ⟨by omega, by omega, SC_new i3 i1 (show 1 ≤ σ 9 k by omega) (Or.inr (show σ 9 k < σ 9 b by omega))⟩ (by omega)
    · refine ok_aload_n 12 rfl rfl rfl (ok_iconst 13 rfl rfl (by decide) (ok_iconst 14 rfl rfl (by decide) (ok_callVV (M' := M_Mo_laysCan) (as := [_, _]) 15 rfl rfl ml_X12_256 (s_Mo_laysCan h hw (by decide) (Or.inl rfl)) rfl rfl (Nat.le_of_ble_eq_true rfl) ⟨Nat.le_of_ble_eq_true rfl, Nat.le_of_ble_eq_true rfl⟩ rfl (Nat.le_of_ble_eq_true rfl) (fun τ hq => ?_))))
      rw [← en] at hq
      obtain ⟨q1, q2, q3⟩ := hq
      rw [if_pos rfl] at q2
      have hd : ∀ T, 0 ≤ T → T < p2 n - 1 → dpO n 0 (fun i j => 1 ≤ wk σ i j) (wk σ) (fun k => τ 10 k) T := fun T a b => dpO_of (q3 T a b).1
      obtain ⟨hv, hcl⟩ := wd_ps (v := fun k => τ 10 k) hn (fun i j a b c d => (hwb i j a b c d).1) hc1 q2 hd
      have hv : 1 ≤ τ 10 0 := hv
      have hv2 : τ 10 0 ≤ 799999992 := by
        rcases (q3 0 (by omega) (by omega)).1.2 with q | ⟨j, a1, a2, a3, a4⟩
        · have q5 : τ 10 0 = -1 := q.1
          omega
        · unfold cmbG at a4
          rw [if_pos rfl] at a4
          have := hwb (pc 0) j (by simp [pc]) (by simp [pc]; omega) a1 a2
          have q5 : τ 10 0 = min (wk σ (pc 0) j) (τ 10 (sB 0 j)) := a4
          clear a4
          omega
      have t22 : τ 0 22 = n := by rw [q1 0 22 (by omega), en]
      have twk : wk τ = wk σ := by funext a b; unfold wk; rw [q1 0 22 (by omega), q1 9 _ (by omega)]
      refine ok_aload_n 16 rfl rfl rfl (ok_aload_n 17 rfl rfl rfl (ok_getR 18 rfl rfl fl_X12_42 rfl rfl (ok_iconst 19 rfl rfl (by decide) (ok_lald 20 rfl rfl rfl (by first | omega | (simp [up_if]; omega) | (simp [up_if] at *; omega)) (ok_l2i 21 rfl rfl (by first | omega | (simp [up_if]; omega) | (simp [up_if] at *; omega)) (ok_iconst 22 rfl rfl (by decide) (ok_iconst 23 rfl rfl (by decide) (ok_callVI (M' := M_Mo_isChosen) (as := [_, _, _]) 24 rfl rfl ml_X12_260 (s_Mo_isChosen (h.fr' (by rw [t22, en]))) rfl rfl (Nat.le_of_ble_eq_true rfl) ⟨Nat.le_of_ble_eq_true rfl, Nat.le_of_ble_eq_true rfl⟩ rfl (Nat.le_of_ble_eq_true rfl) (fun τ2 z hz => ?_)))))))))
      rw [t22] at hz
      have hy2 := Qch_yes hn hz (by unfold opB; rw [twk]; exact cpl_mono (fun i j a _ b _ q => ⟨q, by omega⟩) n.toNat 0 (by omega) hcl)
      have hy3 : fstC n (okJ n (fun i j => τ 10 0 ≤ wk σ i j)) (fun i => τ2 11 i) := by
        have y := lex_cg hn0 opB_m (lex_fst hy2.2.1)
        rw [twk] at y
        exact y
      have hq : chS n (wk σ) r (fun i => τ2 11 i) := Or.inr (Or.inl ⟨by omega, τ 10 0, hv, ⟨fun k => τ 10 k, q2, hd, rfl⟩, hy3⟩)
      have hf : fr (fun c _ => c = 10 ∨ c = 11) σ τ2 := fun c k q => by rw [hy2.1 c k q, q1 c k (by omega)]
      clear hy2 hy3 hz hd q3
      refine ok_pop 25 rfl rfl rfl (ok_goto 26 129 rfl rfl rfl (ok_vret 79 rfl rfl rfl ?_))
      exact ⟨rfl, hf, hq⟩
  · refine ok_aload_n 2 rfl rfl rfl (ok_iconst 3 rfl rfl (by decide) (ok_iconst 4 rfl rfl (by decide) (ok_iconst 5 rfl rfl (by decide) (ok_callVI (M' := M_Mo_isChosen) (as := [_, _, _]) 6 rfl rfl ml_X12_260 (s_Mo_isChosen h) rfl rfl (Nat.le_of_ble_eq_true rfl) ⟨Nat.le_of_ble_eq_true rfl, Nat.le_of_ble_eq_true rfl⟩ rfl (Nat.le_of_ble_eq_true rfl) (fun τ z hz => ?_)))))
    rw [← en] at hz
    have hy := Qch_yes hn hz hcp
    have hq : chS n (wk σ) r (fun i => τ 11 i) := Or.inl ⟨by omega, lex_cg hn0 opB_m (lex_fst hy.2.1)⟩
    have hf := hy.1
    clear hy hz
    refine ok_pop 7 rfl rfl rfl (ok_goto 8 129 rfl rfl rfl (ok_vret 79 rfl rfl rfl ?_))
    exact ⟨rfl, hf, hq⟩
def Qst (σ : eS) (r : Int) (σ' : eS) (z : Int) : Prop := fr (fun c _ => c = 9 ∨ c = 10 ∨ c = 11) σ σ' ∧ stp (σ 0 22) r (wk σ) (wk σ') (fun i => σ' 11 i) z
theorem t_Mo_peels {σ : eS} {r m : Int} (h : nW σ) (hr : 0 ≤ r ∧ r ≤ 3) (he : EvW (σ 0 22) (wk σ) m) (hm : 1 ≤ m ∧ m ≤ 799999992) : MtI shB M_Mo_peels [vr 0, vi r] σ (Qst σ r) := by
  refine Mt.of okM_Mo_peels (Nat.le_of_ble_eq_true rfl) (fun hk hg => ?_)
  obtain ⟨n, en⟩ : ∃ x, x = σ 0 22 := ⟨_, rfl⟩
  have hn : 1 ≤ n ∧ n ≤ 8 := by rw [en]; exact h
  obtain ⟨sq1, sq2⟩ := sq8 (n := n) ⟨by omega, by omega⟩
  have hw : wBd σ := fun i j a b c d => ⟨he.1 i j a b c d, Int.le_trans (EvW_bd he ⟨a, b⟩ ⟨c, d⟩) hm.2⟩
  refine ok_aload_n 0 rfl rfl rfl (ok_iload_n 1 rfl rfl rfl (ok_callVV (M' := M_Mo_choose) (as := [_]) 2 rfl rfl ml_X12_267 (t_Mo_choose h hr hw he hm.1) rfl rfl (Nat.le_of_ble_eq_true rfl) ⟨Nat.le_of_ble_eq_true rfl, Nat.le_of_ble_eq_true rfl⟩ rfl (Nat.le_of_ble_eq_true rfl) (fun τ hq => ?_)))
  unfold Qcs at hq
  rw [← en] at hq he
  obtain ⟨f1, hch⟩ := hq
  obtain ⟨hp, hc⟩ := chS_ps hn hch
  have hp : perm n (fun i => τ 11 i) := hp
  have t22 : τ 0 22 = n := by rw [f1 0 22 (by omega), en]
  have tn : nW τ := h.fr' (by rw [t22, en])
  have twk : wk τ = wk σ := by funext a b; unfold wk; rw [f1 0 22 (by omega), f1 9 _ (by omega)]
  have hcb : ∀ i, 0 ≤ i → i < n → 1 ≤ wk σ i (τ 11 i) ∧ wk σ i (τ 11 i) ≤ m := fun i a b => ⟨hc i a b, EvW_bd he ⟨a, b⟩ (hp.1 i a b)⟩
  refine ok_ldcw 3 (799999992) rfl rfl kc_X12_270 (by decide) (ok_ist2 4 rfl rfl rfl (ok_iconst 5 rfl rfl (by decide) (ok_ist3 6 rfl rfl rfl ?_)))
  refine lpO2 (fun w i : Int => [some (vr 0), some (vi r), some (vi w), some (vi i)]) (fun _ _ => τ) (fun w i => 0 ≤ i ∧ i ≤ n ∧ 1 ≤ w ∧ w ≤ 799999992 ∧ (∀ k, 0 ≤ k → k < i → w ≤ wk σ k (τ 11 k)) ∧ (0 < i → ∃ k, 0 ≤ k ∧ k < i ∧ w = wk σ k (τ 11 k)) ∧ (i = 0 → w = 799999992)) (fun _ i => (n - i).toNat) ?_ 799999992 0 ⟨by omega, by omega, by omega, by omega, fun k a b => by omega, fun q => by omega, fun _ => rfl⟩
  rintro w i ⟨i1, i2, i3, i4, i5, i6, i7⟩ ih
  refine ok_iload_n 7 rfl rfl rfl (ok_aload_n 8 rfl rfl rfl (ok_getI 9 rfl rfl fl_X12_234 rfl rfl (Or.inl rfl) (ok_icmp_ge 10 41 rfl rfl rfl (fun h16 => ?_) (fun h16 => ?_))))
  · refine ok_iconst 23 rfl rfl (by decide) (ok_ist3 24 rfl rfl rfl ?_)
    have hxx := i6 (by omega)
    have hin : i = n := by omega
    clear i6 ih
    refine lpO2 (fun (i : Int) (_ : eS) => [some (vr 0), some (vi r), some (vi w), some (vi i)]) (fun _ ρ => ρ) (fun i ρ => 0 ≤ i ∧ i ≤ n ∧ fr (fun c _ => c = 9) τ ρ ∧ ∀ a j, 0 ≤ a → a < n → 0 ≤ j → j < n → ρ 9 (n * a + j) = wk σ a j - (if a < i ∧ j = τ 11 a then w else 0)) (fun i _ => (n - i).toNat) ?_ 0 τ ⟨by omega, by omega, fr.rf, fun a j y1 y2 y3 y4 => ?_⟩
    rotate_left
    · rw [if_neg (by omega), ← twk]
      unfold wk
      rw [t22]
      omega
    clear h16
    rintro k ρ ⟨k1, k2, k3, k4⟩ ih
    have e22 : ρ 0 22 = n := by rw [k3 0 22 (by omega), t22]
    have e11 : ∀ q, ρ 11 q = τ 11 q := fun q => k3 11 q (by omega)
    refine ok_iload_n 25 rfl rfl rfl (ok_aload_n 26 rfl rfl rfl (ok_getI 27 rfl rfl fl_X12_234 rfl rfl (Or.inl rfl) (ok_icmp_ge 28 79 rfl rfl rfl (fun h48 => ?_) (fun h48 => ?_))))
    · refine ok_iload_n 47 rfl rfl rfl (ok_iret 48 rfl rfl rfl ?_)
      have hkn : k = n := by omega
      have hwk : ∀ a j, 0 ≤ a → a < n → 0 ≤ j → j < n → wk ρ a j = wk σ a j - (if j = τ 11 a then w else 0) := fun a j y1 y2 y3 y4 => by
        have e : wk ρ a j = ρ 9 (n * a + j) := by unfold wk; rw [e22]
        rw [e, k4 a j y1 y2 y3 y4]
        by_cases q : j = τ 11 a
        · rw [if_pos q, if_pos ⟨by omega, q⟩]
        · rw [if_neg q, if_neg (fun y => q y.2)]
      have e11' : (fun i => ρ 11 i) = (fun i => τ 11 i) := funext e11
      refine ⟨_, rfl, fun c q z => by rw [k3 c q (by omega), f1 c q (by omega)], ?_⟩
      rw [← en, e11']
      exact ⟨hch, by rw [hin] at hxx; exact hxx, fun i a b => i5 i a (by omega), hwk⟩
    · have hi : 0 ≤ τ 11 k ∧ τ 11 k < n := hp.1 k k1 (by omega)
      have hv := hcb k k1 (by omega)
      have hle := i5 k k1 (by omega)
      obtain ⟨y1, y2, y3, y4⟩ := ix8 (n := n) (i := k) (j := τ 11 k) ⟨by omega, by omega⟩ ⟨by omega, by omega⟩ hi
      have hval := k4 k (τ 11 k) k1 (by omega) hi.1 hi.2
      rw [if_neg (by omega)] at hval
      refine ok_aload_n 29 rfl rfl rfl (ok_getR 30 rfl rfl fl_X12_39 rfl rfl (ok_aload_n 31 rfl rfl rfl (ok_getI 32 rfl rfl fl_X12_234 rfl rfl (Or.inl rfl) (ok_iload_n 33 rfl rfl rfl (ok_imul 34 rfl rfl (by rw [e22]; omega) (ok_aload_n 35 rfl rfl rfl (ok_getR 36 rfl rfl fl_X12_45 rfl rfl (ok_iload_n 37 rfl rfl rfl (ok_iald 38 rfl rfl rfl (by first | omega | (simp [up_if]; omega) | (simp [up_if] at *; omega)) (ok_iadd 39 rfl rfl (by rw [e22, e11]; omega) (ok_dup2 40 rfl rfl ⟨rfl, rfl⟩ (ok_iald 41 rfl rfl rfl (by rw [e22, e11]; omega) (ok_iload_n 42 rfl rfl rfl (ok_isub 43 rfl rfl (by rw [e22, e11]; omega) (ok_iast 44 rfl rfl rfl (by rw [e22, e11]; omega) (ok_inc3 45 rfl rfl rfl (by first | omega | (simp [up_if]; omega) | (simp [up_if] at *; omega)) (ok_goto 46 43 rfl rfl rfl ?_)))))))))))))))))
      rw [e22, e11]
      refine ih (k + 1) _ ⟨by omega, by omega, fr_up k3 rfl, fun a j y1 y2 y3 y4 => ?_⟩ (by omega)
      rw [up_if]
      by_cases q : n * a + j = n * k + τ 11 k
      · obtain ⟨qa, qj⟩ := ix_inj hn ⟨y3, y4⟩ hi q
        rw [if_pos ⟨rfl, q⟩, hval, if_pos ⟨by omega, by rw [qa]; exact qj⟩, qa, qj]
        omega
      · rw [if_neg (fun y => q y.2), k4 a j y1 y2 y3 y4]
        by_cases q2 : a < k ∧ j = τ 11 a
        · rw [if_pos q2, if_pos ⟨by omega, q2.2⟩]
        · rw [if_neg q2, if_neg]
          rintro ⟨y5, y6⟩
          by_cases q3 : a = k
          · exact q (by rw [y6, q3])
          · exact q2 ⟨by omega, y6⟩
  · have hi : 0 ≤ τ 11 i ∧ τ 11 i < n := hp.1 i i1 (by omega)
    have hv := hcb i i1 (by omega)
    refine ok_iload_n 11 rfl rfl rfl (ok_aload_n 12 rfl rfl rfl (ok_iload_n 13 rfl rfl rfl (ok_aload_n 14 rfl rfl rfl (ok_getR 15 rfl rfl fl_X12_45 rfl rfl (ok_iload_n 16 rfl rfl rfl (ok_iald 17 rfl rfl rfl (by first | omega | (simp [up_if]; omega) | (simp [up_if] at *; omega)) (ok_callVI (M' := M_Mo_worked) (as := [_, _]) 18 rfl rfl ml_X12_244 (s_Mo_worked tn (by omega) (by rw [t22]; exact hi)) rfl rfl (Nat.le_of_ble_eq_true rfl) ⟨Nat.le_of_ble_eq_true rfl, Nat.le_of_ble_eq_true rfl⟩ rfl (Nat.le_of_ble_eq_true rfl) (fun σ' z hz => ?_))))))))
    rw [hz.1, hz.2, twk]; clear hz z σ'
    refine ok_mmin 19 rfl rfl ml_X12_271 ⟨Nat.le_of_ble_eq_true rfl, Nat.le_of_ble_eq_true rfl⟩ (ok_ist2 20 rfl rfl rfl (ok_inc3 21 rfl rfl rfl (by first | omega | (simp [up_if]; omega) | (simp [up_if] at *; omega)) (ok_goto 22 11 rfl rfl rfl ?_)))
    refine ih _ (i + 1) ⟨by omega, by omega, by omega, by omega, fun k a b => ?_, fun _ => ?_, fun q => by omega⟩ (by omega)
    · by_cases q : k = i
      · rw [q]; omega
      · have := i5 k a (by omega); omega
    · by_cases q : w ≤ wk σ i (τ 11 i)
      · by_cases q0 : 0 < i
        · obtain ⟨k, a, b, c⟩ := i6 q0
          exact ⟨k, a, by omega, by omega⟩
        · exact ⟨i, i1, by omega, by omega⟩
      · exact ⟨i, i1, by omega, by omega⟩
def QK2 (σ : eS) (r kind m : Int) (σ' : eS) (z : Int) : Prop := QK σ kind m σ' z ∧ PE (σ 0 22) r (wk σ) (fun q => σ' 12 q) (fun q i => σ' 13 (8 * q + i)) z
theorem t_Mo_keepsAll {σ : eS} {r kind m : Int} (h : nW σ) (hr : 0 ≤ r ∧ r ≤ 3) (he : EvW (σ 0 22) (wk σ) m) (hm : 1 ≤ m ∧ m ≤ 799999992) : MtI shB M_Mo_keepsAll [vr 0, vi r, vi kind, vi m] σ (QK2 σ r kind m) := by
  refine Mt.of okM_Mo_keepsAll (Nat.le_of_ble_eq_true rfl) (fun hk hg => ?_)
  obtain ⟨n, en⟩ : ∃ x, x = σ 0 22 := ⟨_, rfl⟩
  have hn : 1 ≤ n ∧ n ≤ 8 := by rw [en]; exact h
  obtain ⟨sq1, sq2⟩ := sq8 (n := n) ⟨by omega, by omega⟩
  have hnp := np2_bd (n := n) ⟨by omega, by omega⟩ (wk σ)
  unfold QK2
  refine ok_aload_n 0 rfl rfl rfl (ok_iconst 1 rfl rfl (by decide) (ok_putI 2 rfl rfl fl_X12_273 rfl rfl rfl rfl (ok_aload_n 3 rfl rfl rfl (ok_aload_n 4 rfl rfl rfl (ok_getI 5 rfl rfl fl_X12_234 rfl rfl (Or.inl rfl) (ok_putI 6 rfl rfl fl_X12_276 rfl rfl rfl rfl (ok_aload_n 7 rfl rfl rfl (ok_iload_n 8 rfl rfl rfl (ok_putI 9 rfl rfl fl_X12_279 rfl rfl rfl rfl (ok_aload_n 10 rfl rfl rfl (ok_iload_n 11 rfl rfl rfl (ok_putI 12 rfl rfl fl_X12_282 rfl rfl rfl rfl ?_))))))))))))
  rw [up_nk _ _ _ _ (by decide)]
  have ew0 : wk (up (up (up (up σ 0 27 0) 0 28 (σ 0 22)) 0 29 m) 0 30 kind) = wk σ := by funext a b; unfold wk; simp [up_if]
  refine lpO2 (fun (_ : Int) (_ : eS) => [some (vr 0), some (vi r), some (vi kind), some (vi m), none]) (fun _ ρ => ρ) (fun x ρ => (fr rgK σ ρ ∧ 0 ≤ x ∧ x ≤ m ∧ EvW n (wk ρ) x ∧ 0 ≤ ρ 0 27 ∧ ρ 0 27 + np2 n (wk ρ) ≤ 64 ∧ ρ 0 28 = n ∧ ρ 0 29 = m ∧ ρ 0 30 = kind ∧ wtK ρ (ρ 0 27) (m - x) ∧ colK ρ (ρ 0 27) n) ∧ Pl n r (wk σ) (fun q => ρ 12 q) (fun q i => ρ 13 (8 * q + i)) (ρ 0 27).toNat (wk ρ)) (fun _ ρ => (64 - ρ 0 27).toNat) ?_ m _ ⟨⟨fr_up (fr_up (fr_up (fr_up fr.rf (by simp [rgK])) (by simp [rgK])) (by simp [rgK])) (by simp [rgK]), by omega, by omega, ?_, by simp [up_if], ?_, by simp [up_if, en], by simp [up_if], by simp [up_if], ?_, ?_⟩, ?_⟩
  rotate_left
  · rw [ew0, en]; exact he
  · rw [ew0]; simp [up_if]; omega
  · refine ⟨fun q a b => ?_, ?_⟩
    · simp [up_if] at b; omega
    · simp [up_if, sm]
  · intro q i a b
    simp [up_if] at b; omega
  · rw [ew0, show up (up (up (up σ 0 27 0) 0 28 (σ 0 22)) 0 29 m) 0 30 kind 0 27 = 0 by simp [up_if]]
    exact ag_rf _ _
  rintro x ρ ⟨⟨i1, i2, i3, i4, i5, i6, i7, i8, i9, iA, iB⟩, iP⟩ ih
  have e22 : ρ 0 22 = n := by rw [i1 0 22 (by simp only [rgK]; omega), en]
  have rn : nW ρ := h.fr' (by rw [e22, en])
  have rnp := np2_bd (n := n) ⟨by omega, by omega⟩ (wk ρ)
  refine ok_aload_n 13 rfl rfl rfl (ok_callVI (M' := M_Mo_isLeft) (as := []) 14 rfl rfl ml_X12_285 (s_Mo_isLeft rn) rfl rfl (Nat.le_of_ble_eq_true rfl) ⟨Nat.le_of_ble_eq_true rfl, Nat.le_of_ble_eq_true rfl⟩ rfl (Nat.le_of_ble_eq_true rfl) (fun σ' z hz => ?_))
  obtain ⟨hs_, hz⟩ := hz
  rw [hs_]; clear hs_ σ'
  rw [e22] at hz
  refine ok_if_eq 15 97 rfl rfl rfl (fun h27 => ?_) (fun h27 => ?_)
  · refine ok_aload_n 52 rfl rfl rfl (ok_getI 53 rfl rfl fl_X12_273 rfl rfl (Or.inl rfl) (ok_iret 54 rfl rfl rfl ?_))
    have hall : ∀ k, 0 ≤ k → k < n * n → ρ 9 k ≤ 0 := by
      rcases hz with q | q
      · omega
      · exact q.2
    have hnil : nil0 n (wk ρ) := fun i j a b c d => by
      have g := ix8 (n := n) (i := i) (j := j) ⟨by omega, by omega⟩ ⟨a, b⟩ ⟨c, d⟩
      unfold wk
      rw [e22]
      exact hall _ (by omega) (by omega)
    have hx0 : x = 0 := by
      rw [← i4.2.1 0 (by omega) (by omega)]
      have := sm_bd (f := fun j => wk ρ 0 j) (B := 0) (by decide) (n := n.toNat) (fun j a b => ⟨i4.1 0 j (by omega) (by omega) a (by omega), hnil 0 j (by omega) (by omega) a (by omega)⟩)
      omega
    have hp1 : 1 ≤ ρ 0 27 := by
      rcases (show ρ 0 27 = 0 ∨ 1 ≤ ρ 0 27 by omega) with q | q
      · have := iA.2
        rw [q] at this
        have : (0 : Int) = m - x := this
        omega
      · exact q
    exact ⟨_, rfl, ⟨i1, rfl, hp1, by omega, by rw [i7, en], i8, i9, by have := iA; rwa [hx0, Int.sub_zero] at this, by rw [← en]; exact iB⟩, i5, wk ρ, by rw [← en]; exact iP, by rw [← en]; exact hnil⟩
  · have hx1 : 1 ≤ x := by
      have hex : ∃ k, 0 ≤ k ∧ k < n * n ∧ 0 < ρ 9 k := by
        rcases hz with q | q
        · exact q.2
        · omega
      obtain ⟨k, a, b, c⟩ := hex
      have g1 := Int.mul_ediv_add_emod k n
      have g2 := Int.emod_nonneg k (by omega : n ≠ 0)
      have g3 := Int.emod_lt_of_pos k (by omega : 0 < n)
      have g4 : k / n < n := Int.ediv_lt_of_lt_mul (by omega) (by omega)
      have g5 : 0 ≤ k / n := Int.ediv_nonneg a (by omega)
      have g6 := EvW_bd i4 ⟨g5, g4⟩ ⟨g2, g3⟩
      unfold wk at g6
      rw [e22, g1] at g6
      omega
    have hnp1 := np2_pos hn i4 hx1
    clear hz
    refine ok_aload_n 16 rfl rfl rfl (ok_getR 17 rfl rfl fl_X12_48 rfl rfl (ok_aload_n 18 rfl rfl rfl (ok_getI 19 rfl rfl fl_X12_273 rfl rfl (Or.inl rfl) (ok_aload_n 20 rfl rfl rfl (ok_iload_n 21 rfl rfl rfl (ok_callVI (M' := M_Mo_peels) (as := [_]) 22 rfl rfl ml_X12_288 (t_Mo_peels rn hr (by rw [e22]; exact i4) ⟨hx1, by omega⟩) rfl rfl (Nat.le_of_ble_eq_true rfl) ⟨Nat.le_of_ble_eq_true rfl, Nat.le_of_ble_eq_true rfl⟩ rfl (Nat.le_of_ble_eq_true rfl) (fun τ z hz => ?_)))))))
    obtain ⟨z3, zS⟩ := hz
    rw [e22] at zS
    obtain ⟨z1, z2, z4, z5⟩ := stp_ev hn i4 zS
    have zp := (chS_ps hn zS.1).1.1
    have t : ∀ k, τ 0 k = ρ 0 k := fun k => z3 0 k (by omega)
    have t12 : ∀ k, τ 12 k = ρ 12 k := fun k => z3 12 k (by omega)
    have t13 : ∀ k, τ 13 k = ρ 13 k := fun k => z3 13 k (by omega)
    refine ok_iast 23 rfl rfl rfl (by first | omega | (simp [up_if]; omega) | (simp [up_if] at *; omega)) (ok_iconst 24 rfl rfl (by decide) (ok_ist4 25 rfl rfl rfl ?_))
    refine lpO2 (fun (i : Int) (_ : eS) => [some (vr 0), some (vi r), some (vi kind), some (vi m), some (vi i)]) (fun _ υ => υ) (fun i υ => 0 ≤ i ∧ i ≤ n ∧ fr (fun c _ => c = 13) (up τ 12 (ρ 0 27) z) υ ∧ (∀ q a, 0 ≤ q → q < ρ 0 27 → 0 ≤ a → a < n → υ 13 (8 * q + a) = ρ 13 (8 * q + a)) ∧ ∀ a, 0 ≤ a → a < i → υ 13 (8 * ρ 0 27 + a) = τ 11 a) (fun i _ => (n - i).toNat) ?_ 0 _ ⟨by omega, by omega, fr.rf, fun q a y1 y2 y3 y4 => by rw [up_ne _ _ _ _ (by decide), t13], fun a b c => by omega⟩
    rintro i υ ⟨k1, k2, k3, k4, k5⟩ ih2
    have v0 : ∀ k, υ 0 k = ρ 0 k := fun k => by rw [k3 0 k (by omega), up_ne _ _ _ _ (by decide), t]
    have v11 : ∀ k, υ 11 k = τ 11 k := fun k => by rw [k3 11 k (by omega), up_ne _ _ _ _ (by decide)]
    have v27 := v0 27
    have v22 := v0 22
    refine ok_iload 26 rfl rfl rfl (ok_aload_n 27 rfl rfl rfl (ok_getI 28 rfl rfl fl_X12_234 rfl rfl (Or.inl rfl) (ok_icmp_ge 29 84 rfl rfl rfl (fun h53 => ?_) (fun h53 => ?_))))
    · refine ok_aload_n 45 rfl rfl rfl (ok_dup 46 rfl rfl rfl (ok_getI 47 rfl rfl fl_X12_273 rfl rfl (Or.inl rfl) (ok_iconst 48 rfl rfl (by decide) (ok_iadd 49 rfl rfl (by first | omega | (simp [up_if]; omega) | (simp [up_if] at *; omega)) (ok_putI 50 rfl rfl fl_X12_273 rfl rfl rfl rfl (ok_goto 51 23 rfl rfl rfl ?_))))))
      rw [v27]
      have w12 : ∀ k, up υ 0 27 (ρ 0 27 + 1) 12 k = if k = ρ 0 27 then z else ρ 12 k := fun k => by
        rw [up_ne _ _ _ _ (by decide), k3 12 k (by omega), up_if]
        by_cases q : k = ρ 0 27
        · rw [if_pos ⟨rfl, q⟩, if_pos q]
        · rw [if_neg (fun y => q y.2), if_neg q, t12]
      have w13 : ∀ k, up υ 0 27 (ρ 0 27 + 1) 13 k = υ 13 k := fun k => up_ne _ _ _ _ (by decide)
      have w9 : ∀ k, up υ 0 27 (ρ 0 27 + 1) 9 k = τ 9 k := fun k => by rw [up_ne _ _ _ _ (by decide), k3 9 k (by omega), up_ne _ _ _ _ (by decide)]
      have wwk : wk (up υ 0 27 (ρ 0 27 + 1)) = wk τ := by
        funext a b
        unfold wk
        rw [w9, up_nk _ _ _ _ (show (22 : Int) ≠ 27 by decide), v22, t]
      have w27 : up υ 0 27 (ρ 0 27 + 1) 0 27 = ρ 0 27 + 1 := up_same _ _ _ _
      refine ok_fg [some (vr 0), some (vi r), some (vi kind), some (vi m), none] ⟨rfl, rfl, rfl, rfl, trivial⟩ (ih (x - z) _ ⟨⟨fr_up (i1.tr (fun c k q => by
        simp only [rgK] at q
        rw [k3 c k (by omega), up_ne _ _ _ _ (by omega), z3 c k (by omega)])) (by simp [rgK]), by omega, by omega, by rw [wwk]; exact z4, by rw [w27]; omega, by rw [w27, wwk]; omega, by rw [up_nk _ _ _ _ (by decide), v0]; exact i7, by rw [up_nk _ _ _ _ (by decide), v0]; exact i8, by rw [up_nk _ _ _ _ (by decide), v0]; exact i9, ?_, ?_⟩, ?_⟩ (by rw [w27]; omega))
      · rw [w27]
        refine ⟨fun q a b => ?_, ?_⟩
        · rw [w12]
          split
          · exact z1
          · exact iA.1 q a (by omega)
        · rw [sm_s _ i5, w12, if_pos rfl]
          have e : sm (fun q => up υ 0 27 (ρ 0 27 + 1) 12 q) (ρ 0 27).toNat = sm (fun q => ρ 12 q) (ρ 0 27).toNat := sm_cg (fun k a b => by rw [w12, if_neg (by omega)])
          rw [e, iA.2]
          omega
      · rw [w27]
        intro q a y1 y2 y3 y4
        rw [w13]
        by_cases hq : q = ρ 0 27
        · rw [hq, k5 a y3 (by omega)]; exact zp a y3 y4
        · rw [k4 q a y1 (by omega) y3 y4]; exact iB q a y1 (by omega) y3 y4
      · rw [w27, wwk, show (ρ 0 27 + 1).toNat = (ρ 0 27).toNat + 1 by omega]
        have ec : (((ρ 0 27).toNat : Nat) : Int) = ρ 0 27 := Int.toNat_of_nonneg i5
        refine ⟨wk ρ, Pl_cg (fun q a b => ⟨?_, fun i c d => ?_⟩) (ag_rf _ _) iP, ?_⟩
        · try dsimp only
          rw [w12, if_neg (by omega)]
        · try dsimp only
          rw [w13, k4 q i a (by omega) c d]
        · rw [ec]
          (try dsimp only)
          rw [w12, if_pos rfl]
          refine stp_cc (fun i c d => ?_) (ag_rf _ _) zS
          try dsimp only
          rw [w13, k5 i c (by omega)]
    · refine ok_aload_n 30 rfl rfl rfl (ok_getR 31 rfl rfl fl_X12_51 rfl rfl (ok_bipush 32 rfl rfl (by decide) (by decide) (ok_aload_n 33 rfl rfl rfl (ok_getI 34 rfl rfl fl_X12_273 rfl rfl (Or.inl rfl) (ok_imul 35 rfl rfl (by first | omega | (simp [up_if]; omega) | (simp [up_if] at *; omega)) (ok_iload 36 rfl rfl rfl (ok_iadd 37 rfl rfl (by first | omega | (simp [up_if]; omega) | (simp [up_if] at *; omega)) (ok_aload_n 38 rfl rfl rfl (ok_getR 39 rfl rfl fl_X12_45 rfl rfl (ok_iload 40 rfl rfl rfl (ok_iald 41 rfl rfl rfl (by first | omega | (simp [up_if]; omega) | (simp [up_if] at *; omega)) (ok_iast 42 rfl rfl rfl (by first | omega | (simp [up_if]; omega) | (simp [up_if] at *; omega)) (ok_inc4 43 rfl rfl rfl (by first | omega | (simp [up_if]; omega) | (simp [up_if] at *; omega)) (ok_goto 44 47 rfl rfl rfl ?_))))))))))))))
      rw [v11, v27]
      refine ih2 (i + 1) _ ⟨by omega, by omega, fr_up k3 rfl, fun q a y1 y2 y3 y4 => ?_, fun a b c => ?_⟩ (by omega)
      · rw [up_nk _ _ _ _ (by omega)]; exact k4 q a y1 y2 y3 y4
      · rw [up_if]
        by_cases q : a = i
        · rw [if_pos ⟨rfl, by rw [q]⟩, q]
        · rw [if_neg (by omega)]; exact k5 a b (by omega)
