/-! THE GREATEST over what is open: what the sets' numbers must be, and that they are unique -/
def okO (op : Int → Int → Prop) (v : Int → Int) (T j : Int) : Prop := bt T j = false ∧ op (pc T) j ∧ 0 ≤ v (sB T j)
def dpO (n sums : Int) (op : Int → Int → Prop) (w : Int → Int → Int) (v : Int → Int) (T : Int) : Prop := (∀ j, 0 ≤ j → j < n → okO op v T j → cmbG sums (w (pc T) j) (v (sB T j)) ≤ v T) ∧ ((v T = -1 ∧ ∀ j, 0 ≤ j → j < n → ¬ okO op v T j) ∨ ∃ j, 0 ≤ j ∧ j < n ∧ okO op v T j ∧ v T = cmbG sums (w (pc T) j) (v (sB T j)))
theorem dpO_of {n l sums : Int} {w : Int → Int → Int} {v : Int → Int} {T : Int} (h : dpG n l sums w v T) : dpO n sums (fun i j => l ≤ w i j) w v T := h
theorem okO_cg {op : Int → Int → Prop} {v v' : Int → Int} {T j : Int} (e : v' (sB T j) = v (sB T j)) : okO op v' T j ↔ okO op v T j := by unfold okO; rw [e]
theorem dpO_cg {n sums : Int} {op : Int → Int → Prop} {w : Int → Int → Int} {v v' : Int → Int} {T : Int} (hn : n ≤ 8) (hT : 0 ≤ T ∧ T < 256) (e : ∀ k, T ≤ k → v' k = v k) (h : dpO n sums op w v T) : dpO n sums op w v' T := by
  have es : ∀ j, 0 ≤ j → j < n → bt T j = false → v' (sB T j) = v (sB T j) := fun j a b c => e _ (by have := (bitC hT ⟨a, by omega⟩ c).2; omega)
  refine ⟨fun j a b c => ?_, ?_⟩
  · rw [e T (Int.le_refl _), es j a b c.1]
    exact h.1 j a b ((okO_cg (es j a b c.1)).mp c)
  · rw [e T (Int.le_refl _)]
    rcases h.2 with q | ⟨j, a, b, c, d⟩
    · exact Or.inl ⟨q.1, fun j a b c => q.2 j a b ((okO_cg (es j a b c.1)).mp c)⟩
    · exact Or.inr ⟨j, a, b, (okO_cg (es j a b c.1)).mpr c, by rw [es j a b c.1]; exact d⟩
theorem dpO_un {n sums : Int} {op op' : Int → Int → Prop} {w w' : Int → Int → Int} {v v' : Int → Int} (hn : 0 ≤ n ∧ n ≤ 8) (he : ∀ i j, 0 ≤ i → i < n → 0 ≤ j → j < n → (op i j ↔ op' i j)) (hw : ∀ i j, 0 ≤ i → i < n → 0 ≤ j → j < n → w i j = w' i j) (hf : v (p2 n - 1) = v' (p2 n - 1)) (h : ∀ T, 0 ≤ T → T < p2 n - 1 → dpO n sums op w v T) (h' : ∀ T, 0 ≤ T → T < p2 n - 1 → dpO n sums op' w' v' T) : ∀ T, 0 ≤ T → T < p2 n → v T = v' T := by
  have b2 := bit2 hn
  have key : ∀ (m : Nat) (T : Int), 0 ≤ T → T < p2 n → p2 n - T ≤ (m : Int) → v T = v' T := by
    intro m
    induction m with
    | zero => intro T a b c; omega
    | succ m ih =>
      intro T a b c
      by_cases q : T = p2 n - 1
      · rw [q]; exact hf
      · have hp := bitL (s := T) (n := n) ⟨a, by omega⟩ hn
        have hp1 := hp.1 (by omega)
        have hp0 := hp.2.2.1
        have es : ∀ j, 0 ≤ j → j < n → bt T j = false → v (sB T j) = v' (sB T j) := fun j j0 jn jb => by
          have x := (bitC (s := T) (j := j) ⟨a, by omega⟩ ⟨j0, by omega⟩ jb).2
          have y := sB_lt (s := T) (j := j) (n := n) ⟨a, b⟩ ⟨j0, jn⟩
          exact ih _ y.1 y.2 (by omega)
        have eo : ∀ j, 0 ≤ j → j < n → (okO op v T j ↔ okO op' v' T j) := fun j j0 jn => by
          unfold okO
          constructor
          · rintro ⟨x, y, z⟩; exact ⟨x, (he _ j hp0 hp1 j0 jn).mp y, by rw [← es j j0 jn x]; exact z⟩
          · rintro ⟨x, y, z⟩; exact ⟨x, (he _ j hp0 hp1 j0 jn).mpr y, by rw [es j j0 jn x]; exact z⟩
        obtain ⟨a1, a2⟩ := h T a (by omega)
        obtain ⟨b1, b3⟩ := h' T a (by omega)
        have ec : ∀ j, 0 ≤ j → j < n → bt T j = false → cmbG sums (w (pc T) j) (v (sB T j)) = cmbG sums (w' (pc T) j) (v' (sB T j)) := fun j j0 jn jb => by rw [hw _ j hp0 hp1 j0 jn, es j j0 jn jb]
        rcases a2 with a2 | ⟨j, j0, jn, jo, je⟩ <;> rcases b3 with b3 | ⟨i, i0, i1, io, ie⟩
        · rw [a2.1, b3.1]
        · exact absurd ((eo i i0 i1).mpr io) (a2.2 i i0 i1)
        · exact absurd ((eo j j0 jn).mp jo) (b3.2 j j0 jn)
        · have x := b1 j j0 jn ((eo j j0 jn).mp jo)
          have y := a1 i i0 i1 ((eo i i0 i1).mpr io)
          rw [← ec j j0 jn jo.1, ← je] at x
          rw [ec i i0 i1 io.1, ← ie] at y
          omega
  exact fun T a b => key (p2 n - T).toNat T a b (by omega)
/-- the walk over the columns of one set -/
def dpQ (sums : Int) (op : Int → Int → Prop) (w : Int → Int → Int) (v : Int → Int) (T j x : Int) : Prop := -1 ≤ x ∧ (∀ j', 0 ≤ j' → j' < j → okO op v T j' → cmbG sums (w (pc T) j') (v (sB T j')) ≤ x) ∧ ((x = -1 ∧ ∀ j', 0 ≤ j' → j' < j → ¬ okO op v T j') ∨ ∃ j', 0 ≤ j' ∧ j' < j ∧ okO op v T j' ∧ x = cmbG sums (w (pc T) j') (v (sB T j')))
theorem dpQ_0 {sums T : Int} {op : Int → Int → Prop} {w : Int → Int → Int} {v : Int → Int} : dpQ sums op w v T 0 (-1) := ⟨by omega, fun j' a b => by omega, Or.inl ⟨rfl, fun j' a b => by omega⟩⟩
theorem dpQ_no {sums T j x : Int} {op : Int → Int → Prop} {w : Int → Int → Int} {v : Int → Int} (h : dpQ sums op w v T j x) (hno : ¬ okO op v T j) : dpQ sums op w v T (j + 1) x := by
  refine ⟨h.1, fun j' a b c => ?_, ?_⟩
  · rcases (by omega : j' < j ∨ j' = j) with q | q
    · exact h.2.1 j' a q c
    · rw [q] at c; exact absurd c hno
  · rcases h.2.2 with q | ⟨j', a, b, c, d⟩
    · refine Or.inl ⟨q.1, fun j' a b => ?_⟩
      rcases (by omega : j' < j ∨ j' = j) with y | y
      · exact q.2 j' a y
      · rw [y]; exact hno
    · exact Or.inr ⟨j', a, by omega, c, d⟩
theorem dpQ_yes {sums T j x y : Int} {op : Int → Int → Prop} {w : Int → Int → Int} {v : Int → Int} (h : dpQ sums op w v T j x) (hj : 0 ≤ j) (ho : okO op v T j) (hy : y = cmbG sums (w (pc T) j) (v (sB T j))) (hy0 : 0 ≤ y) : dpQ sums op w v T (j + 1) (max x y) := by
  refine ⟨by omega, fun j' a b c => ?_, ?_⟩
  · rcases (by omega : j' < j ∨ j' = j) with q | q
    · have := h.2.1 j' a q c; omega
    · rw [q, ← hy]; omega
  · by_cases m : x < y
    · exact Or.inr ⟨j, hj, by omega, ho, by rw [← hy]; omega⟩
    · rcases h.2.2 with q | ⟨j', a, b, c, d⟩
      · omega
      · exact Or.inr ⟨j', a, by omega, c, by omega⟩
theorem dpQ_O {n sums T x : Int} {op : Int → Int → Prop} {w : Int → Int → Int} {v v' : Int → Int} (hn : n ≤ 8) (hT : 0 ≤ T ∧ T < 256) (h : dpQ sums op w v T n x) (e0 : v' T = x) (e : ∀ k, T < k → v' k = v k) : dpO n sums op w v' T := by
  have es : ∀ j, 0 ≤ j → j < n → bt T j = false → v' (sB T j) = v (sB T j) := fun j a b c => e _ (by have := (bitC hT ⟨a, by omega⟩ c).2; omega)
  refine ⟨fun j a b c => ?_, ?_⟩
  · rw [e0, es j a b c.1]
    exact h.2.1 j a b ((okO_cg (es j a b c.1)).mp c)
  · rw [e0]
    rcases h.2.2 with q | ⟨j, a, b, c, d⟩
    · exact Or.inl ⟨q.1, fun j a b c => q.2 j a b ((okO_cg (es j a b c.1)).mp c)⟩
    · exact Or.inr ⟨j, a, b, (okO_cg (es j a b c.1)).mpr c, by rw [es j a b c.1]; exact d⟩
/-- what is open at a set: the row's joins without the used columns -/
theorem open_sp {J n T : Int} {op : Int → Int → Prop} (hn : 0 ≤ n ∧ n ≤ 8) (hJ : jOf J n op) (hT : 0 ≤ T ∧ T < 256) (hp : 0 ≤ pc T ∧ pc T < n) {j : Int} (hj : 0 ≤ j ∧ j < n) : (iand (ishr (iand (rowJ J (pc T)) (ixor T (-1))) j) 1 ≠ 0 ↔ (bt T j = false ∧ op (pc T) j)) ∧ (iand (ishr (iand (rowJ J (pc T)) (ixor T (-1))) j) 1 = 0 ↔ ¬ (bt T j = false ∧ op (pc T) j)) := by
  have rj := rowJ_sp (J := J) (r := pc T) ⟨by omega, by omega⟩
  have os := opn_sp rj.1 hT
  have bz := b_nz (j := j) os.1 ⟨by omega, by omega⟩
  have e : bt (iand (rowJ J (pc T)) (ixor T (-1))) j = true ↔ (bt T j = false ∧ op (pc T) j) := by
    rw [os.2 j hj.1 (by omega), rj.2 j hj.1 (by omega)]
    have := hJ.2 (pc T) j hp.1 (by omega) hj.1 (by omega)
    constructor
    · intro q
      rw [Bool.and_eq_true, Bool.not_eq_true'] at q
      exact ⟨q.2, (this.mp q.1).2.2⟩
    · rintro ⟨q1, q2⟩
      rw [Bool.and_eq_true, Bool.not_eq_true']
      exact ⟨this.mpr ⟨hp.2, hj.2, q2⟩, q1⟩
  exact ⟨bz.1.trans e, ⟨fun q w => by have := bz.1.mpr (e.mpr w); exact this q, fun q => by
    by_cases w : iand (ishr (iand (rowJ J (pc T)) (ixor T (-1))) j) 1 = 0
    · exact w
    · exact absurd (e.mp (bz.1.mp w)) q⟩⟩
theorem t_Ch_greatestLeast {σ : eS} {c : Nat} {J n : Int} {op : Int → Int → Prop} (hs : nth shA c = some (1, 64, [])) (hn : 0 ≤ n ∧ n ≤ 8) (hJ : jOf J n op) (hc18 : c ≠ 18) (hc : ∀ k : Int, 0 ≤ k → k < 64 → 0 ≤ σ c k ∧ σ c k ≤ 799999992) : MtL shA M_Ch_greatestLeast [vr 16, vr c, vl J, vi n] σ (fun σ' z => fr (fun c _ => c = 18) σ σ' ∧ z = σ' 18 0 ∧ σ' 18 (p2 n - 1) = 9223372036854775807 ∧ ∀ T, 0 ≤ T → T < p2 n - 1 → dpO n 0 op (fun i j => σ c (i * 8 + j)) (fun k => σ' 18 k) T ∧ -1 ≤ σ' 18 T ∧ σ' 18 T ≤ 799999992) := by
  refine Mt.of okM_Ch_greatestLeast (Nat.le_of_ble_eq_true rfl) (fun hk hg => ?_)
  have b2 := bit2 hn
  obtain ⟨w, ew⟩ : ∃ w : Int → Int → Int, w = fun i j => σ c (i * 8 + j) := ⟨_, rfl⟩
  rw [← ew]
  refine ok_iconst 0 rfl rfl (by decide) (ok_iload 1 rfl rfl rfl (ok_ishl 2 rfl rfl ?_))
  rw [b2.1]
  refine ok_iconst 3 rfl rfl (by decide) (ok_isub 4 rfl rfl (by first | omega | (simp [up_if]; omega) | (simp [up_if] at *; omega)) (ok_ist5 5 rfl rfl rfl (ok_aload_n 6 rfl rfl rfl (ok_getR 7 rfl rfl fl_X0_15 rfl rfl (ok_iload 8 rfl rfl rfl (ok_ldc2 9 (9223372036854775807) rfl rfl kc_X0_36 (by decide) (ok_last 10 rfl rfl rfl (by first | omega | (simp [up_if]; omega) | (simp [up_if] at *; omega)) (ok_iload 11 rfl rfl rfl (ok_iconst 12 rfl rfl (by decide) (ok_isub 13 rfl rfl (by first | omega | (simp [up_if]; omega) | (simp [up_if] at *; omega)) (ok_ist6 14 rfl rfl rfl ?_)))))))))))
  refine lpO2 (fun (s : Int) (_ : eS) => [some (vr 16), some (vr c), some (vl J), none, some (vi n), some (vi (p2 n - 1)), some (vi s), none, none, none, none, none]) (fun _ ρ => ρ) (fun s ρ => -1 ≤ s ∧ s < p2 n - 1 ∧ fr (fun c _ => c = 18) σ ρ ∧ ρ 18 (p2 n - 1) = 9223372036854775807 ∧ ∀ T, s < T → T < p2 n - 1 → dpO n 0 op w (fun k => ρ 18 k) T ∧ -1 ≤ ρ 18 T ∧ ρ 18 T ≤ 799999992) (fun s _ => (s + 1).toNat) ?_ (p2 n - 1 - 1) _ ⟨by omega, by omega, fr_up fr.rf rfl, up_same _ _ _ _, fun T a b => by omega⟩
  rintro s ρ ⟨s1, s2, f, hm, hT⟩ ih
  refine ok_iload 15 rfl rfl rfl (ok_if_lt 16 128 rfl rfl rfl (fun h26 => ?_) (fun h26 => ?_))
  · refine ok_aload_n 70 rfl rfl rfl (ok_getR 71 rfl rfl fl_X0_15 rfl rfl (ok_iconst 72 rfl rfl (by decide) (ok_lald 73 rfl rfl rfl (by first | omega | (simp [up_if]; omega) | (simp [up_if] at *; omega)) (ok_lret 74 rfl rfl rfl ?_))))
    exact ⟨_, rfl, f, rfl, hm, fun T a b => hT T (by omega) b⟩
  · refine ok_iload 17 rfl rfl rfl (ok_callSI (M' := M_Ji_bitCount) (as := [_]) 18 rfl rfl ml_X0_38 (s_Ji_bitCount) ⟨Nat.le_of_ble_eq_true rfl, Nat.le_of_ble_eq_true rfl⟩ rfl (Nat.le_of_ble_eq_true rfl) (fun σ' z hz => ?_))
    rw [hz.1, hz.2]
    clear hz z σ'
    have p1 := (bitL (s := s) ⟨by omega, by omega⟩ hn)
    have p3 := p1.1 s2
    have p4 := p1.2.2.1
    clear p1
    rw [bcP (s := s) ⟨by omega, by omega⟩]
    refine ok_ist7 19 rfl rfl rfl (ok_lload_n 20 rfl rfl rfl (ok_iload 21 rfl rfl rfl (ok_callSI (M' := M_Jo_rowOf) (as := [_, _]) 22 rfl rfl ml_X0_26 (s_Jo_rowOf) ⟨Nat.le_of_ble_eq_true rfl, Nat.le_of_ble_eq_true rfl⟩ rfl (Nat.le_of_ble_eq_true rfl) (fun σ' z hz => ?_))))
    rw [hz.1, hz.2]
    clear hz z σ'
    refine ok_iload 23 rfl rfl rfl (ok_iconst 24 rfl rfl (by decide) (ok_ixor 25 rfl rfl (ok_iand 26 rfl rfl (ok_ist8 27 rfl rfl rfl (ok_ldc2 28 (-1) rfl rfl kc_X0_44 (by decide) (ok_lst9 29 rfl rfl rfl (ok_iconst 30 rfl rfl (by decide) (ok_ist11 31 rfl rfl rfl ?_))))))))
    obtain ⟨o, eo⟩ : ∃ o : Int, o = iand (rowJ J (pc s)) (ixor s (-1)) := ⟨_, rfl⟩
    rw [← eo]
    refine lpO2 (fun (v j : Int) => [some (vr 16), some (vr c), some (vl J), none, some (vi n), some (vi (p2 n - 1)), some (vi s), some (vi (pc s)), some (vi o), some (vl v), none, some (vi j)]) (fun _ _ => ρ) (fun v j => 0 ≤ j ∧ j ≤ n ∧ v ≤ 799999992 ∧ dpQ 0 op w (fun k => ρ 18 k) s j v) (fun _ j => (8 - j).toNat) ?_ (-1) 0 ⟨by omega, by omega, by omega, dpQ_0⟩
    rintro v j ⟨j1, j2, v0, v1⟩ ih2
    refine ok_iload 32 rfl rfl rfl (ok_iload 33 rfl rfl rfl (ok_icmp_ge 34 113 rfl rfl rfl (fun h61 => ?_) (fun h61 => ?_)))
    · refine ok_aload_n 63 rfl rfl rfl (ok_getR 64 rfl rfl fl_X0_15 rfl rfl (ok_iload 65 rfl rfl rfl (ok_lload 66 rfl rfl rfl (ok_last 67 rfl rfl rfl (by first | omega | (simp [up_if]; omega) | (simp [up_if] at *; omega)) (ok_inc6 68 rfl rfl rfl (by first | omega | (simp [up_if]; omega) | (simp [up_if] at *; omega)) (ok_goto 69 24 rfl rfl rfl ?_))))))
      have ej : j = n := by omega
      rw [ej] at v1
      refine ok_fg [some (vr 16), some (vr c), some (vl J), none, some (vi n), some (vi (p2 n - 1)), some (vi (s + -1)), none, none, none, none, none] ⟨rfl, rfl, rfl, rfl, rfl, rfl, trivial⟩ (ih (s + -1) _ ⟨by omega, by omega, fr_up f rfl, by rw [up_nk _ _ _ _ (by omega)]; exact hm, fun T a b => ?_⟩ (by omega))
      by_cases q : T = s
      · rw [q]
        refine ⟨dpQ_O hn.2 ⟨by omega, by omega⟩ v1 (up_same _ _ _ _) (fun k hk => up_nk _ _ _ _ (by omega)), ?_, ?_⟩
        · rw [up_same]; exact v1.1
        · rw [up_same]; exact v0
      · obtain ⟨x1, x2, x3⟩ := hT T (by omega) b
        refine ⟨dpO_cg hn.2 ⟨by omega, by omega⟩ (fun k hk => up_nk _ _ _ _ (by omega)) x1, ?_, ?_⟩
        · rw [up_nk _ _ _ _ (by omega)]; exact x2
        · rw [up_nk _ _ _ _ (by omega)]; exact x3
    · have hop := open_sp hn hJ (T := s) ⟨by omega, by omega⟩ ⟨p4, p3⟩ (j := j) ⟨j1, by omega⟩
      rw [← eo] at hop
      have e2 := bitP (s := s) (j := j) (by omega) (by omega)
      have sl := sB_lt (s := s) (j := j) (n := n) ⟨by omega, by omega⟩ ⟨by omega, by omega⟩
      have vq := v1.1
      refine ok_iload 35 rfl rfl rfl (ok_iload 36 rfl rfl rfl (ok_ishr 37 rfl rfl (ok_iconst 38 rfl rfl (by decide) (ok_iand 39 rfl rfl (ok_if_eq 40 107 rfl rfl rfl (fun h71 => ?_) (fun h71 => ?_))))))
      · refine ok_inc11 61 rfl rfl rfl (by first | omega | (simp [up_if]; omega) | (simp [up_if] at *; omega)) (ok_goto 62 57 rfl rfl rfl ?_)
        exact ih2 _ (j + 1) ⟨by omega, by omega, v0, dpQ_no v1 (fun q => hop.2.mp h71 ⟨q.1, q.2.1⟩)⟩ (by omega)
      · refine ok_lload 41 rfl rfl rfl (ok_aload_n 42 rfl rfl rfl (ok_iload 43 rfl rfl rfl (ok_bipush 44 rfl rfl (by decide) (by decide) (ok_imul 45 rfl rfl (by first | omega | (simp [up_if]; omega) | (simp [up_if] at *; omega)) (ok_iload 46 rfl rfl rfl (ok_iadd 47 rfl rfl (by first | omega | (simp [up_if]; omega) | (simp [up_if] at *; omega)) (ok_iald 48 rfl rfl hs (by first | omega | (simp [up_if]; omega) | (simp [up_if] at *; omega)) (ok_i2l 49 rfl rfl (ok_aload_n 50 rfl rfl rfl (ok_getR 51 rfl rfl fl_X0_15 rfl rfl (ok_iload 52 rfl rfl rfl (ok_iconst 53 rfl rfl (by decide) (ok_iload 54 rfl rfl rfl (ok_ishl 55 rfl rfl (ok_ior 56 rfl rfl ?_)))))))))))))))
        rw [e2]
        refine ok_lald 57 rfl rfl rfl (by omega) (ok_mminL 58 rfl rfl ml_X0_46 ⟨Nat.le_of_ble_eq_true rfl, Nat.le_of_ble_eq_true rfl⟩ (ok_mmaxL 59 rfl rfl ml_X0_52 ⟨Nat.le_of_ble_eq_true rfl, Nat.le_of_ble_eq_true rfl⟩ (ok_lst9 60 rfl rfl rfl (ok_inc11 61 rfl rfl rfl (by first | omega | (simp [up_if]; omega) | (simp [up_if] at *; omega)) (ok_goto 62 57 rfl rfl rfl ?_)))))
        obtain ⟨ob, oo⟩ := hop.1.mp h71
        have cb := hc (pc s * 8 + j) (by omega) (by omega)
        have wj : w (pc s) j = ρ c (pc s * 8 + j) := by rw [ew, f c _ hc18]
        rw [← f c (pc s * 8 + j) hc18] at cb
        have ss := (bitC (s := s) (j := j) ⟨by omega, by omega⟩ ⟨by omega, by omega⟩ ob).2
        have vs : -1 ≤ ρ 18 (sB s j) := by
          by_cases q : sB s j = p2 n - 1
          · rw [q, hm]; decide
          · exact (hT _ ss (by omega)).2.1
        refine ih2 _ (j + 1) ⟨by omega, by omega, by omega, ?_⟩ (by omega)
        by_cases q : 0 ≤ ρ 18 (sB s j)
        · exact dpQ_yes v1 j1 ⟨ob, oo, q⟩ (by unfold cmbG; rw [if_pos rfl, wj]) (by omega)
        · have e : max v (min (ρ c (pc s * 8 + j)) (ρ 18 (sB s j))) = v := by omega
          rw [e]
          exact dpQ_no v1 (fun y => q y.2.2)
theorem t_Ch_sumUp {σ : eS} {c : Nat} {J n : Int} {op : Int → Int → Prop} (hs : nth shA c = some (1, 64, [])) (hn : 0 ≤ n ∧ n ≤ 8) (hJ : jOf J n op) (hc18 : c ≠ 18) (hc : ∀ k : Int, 0 ≤ k → k < 64 → 0 ≤ σ c k ∧ σ c k ≤ 799999992) : MtV shA M_Ch_sumUp [vr 16, vr c, vl J, vi n] σ (fun σ' => fr (fun c _ => c = 18) σ σ' ∧ σ' 18 (p2 n - 1) = 0 ∧ ∀ T, 0 ≤ T → T < p2 n - 1 → dpO n 1 op (fun i j => σ c (i * 8 + j)) (fun k => σ' 18 k) T ∧ -1 ≤ σ' 18 T ∧ σ' 18 T ≤ 799999992 * 8) := by
  refine Mt.of okM_Ch_sumUp (Nat.le_of_ble_eq_true rfl) (fun hk hg => ?_)
  have b2 := bit2 hn
  obtain ⟨w, ew⟩ : ∃ w : Int → Int → Int, w = fun i j => σ c (i * 8 + j) := ⟨_, rfl⟩
  rw [← ew]
  refine ok_iconst 0 rfl rfl (by decide) (ok_iload 1 rfl rfl rfl (ok_ishl 2 rfl rfl ?_))
  rw [b2.1]
  refine ok_iconst 3 rfl rfl (by decide) (ok_isub 4 rfl rfl (by first | omega | (simp [up_if]; omega) | (simp [up_if] at *; omega)) (ok_ist5 5 rfl rfl rfl (ok_aload_n 6 rfl rfl rfl (ok_getR 7 rfl rfl fl_X0_15 rfl rfl (ok_iload 8 rfl rfl rfl (ok_lconst (w := 0) 9 rfl rfl rfl (by decide) (ok_last 10 rfl rfl rfl (by first | omega | (simp [up_if]; omega) | (simp [up_if] at *; omega)) (ok_iload 11 rfl rfl rfl (ok_iconst 12 rfl rfl (by decide) (ok_isub 13 rfl rfl (by first | omega | (simp [up_if]; omega) | (simp [up_if] at *; omega)) (ok_ist6 14 rfl rfl rfl ?_)))))))))))
  refine lpO2 (fun (s : Int) (_ : eS) => [some (vr 16), some (vr c), some (vl J), none, some (vi n), some (vi (p2 n - 1)), some (vi s), none, none, none, none, none]) (fun _ ρ => ρ) (fun s ρ => -1 ≤ s ∧ s < p2 n - 1 ∧ fr (fun c _ => c = 18) σ ρ ∧ ρ 18 (p2 n - 1) = 0 ∧ ∀ T, s < T → T < p2 n - 1 → dpO n 1 op w (fun k => ρ 18 k) T ∧ -1 ≤ ρ 18 T ∧ ρ 18 T ≤ 799999992 * (n - pc T)) (fun s _ => (s + 1).toNat) ?_ (p2 n - 1 - 1) _ ⟨by omega, by omega, fr_up fr.rf rfl, up_same _ _ _ _, fun T a b => by omega⟩
  rintro s ρ ⟨s1, s2, f, hm, hT⟩ ih
  refine ok_iload 15 rfl rfl rfl (ok_if_lt 16 143 rfl rfl rfl (fun h24 => ?_) (fun h24 => ?_))
  · refine ok_vret 81 rfl rfl rfl ?_
    refine ⟨rfl, f, hm, fun T a b => ?_⟩
    obtain ⟨x1, x2, x3⟩ := hT T (by omega) b
    have := (bitL (s := T) (n := n) ⟨a, by omega⟩ hn).2.2.1
    exact ⟨x1, x2, by omega⟩
  · refine ok_iload 17 rfl rfl rfl (ok_callSI (M' := M_Ji_bitCount) (as := [_]) 18 rfl rfl ml_X0_38 (s_Ji_bitCount) ⟨Nat.le_of_ble_eq_true rfl, Nat.le_of_ble_eq_true rfl⟩ rfl (Nat.le_of_ble_eq_true rfl) (fun σ' z hz => ?_))
    rw [hz.1, hz.2]
    clear hz z σ'
    have p1 := (bitL (s := s) ⟨by omega, by omega⟩ hn)
    have p3 := p1.1 s2
    have p4 := p1.2.2.1
    clear p1
    rw [bcP (s := s) ⟨by omega, by omega⟩]
    refine ok_ist7 19 rfl rfl rfl (ok_lload_n 20 rfl rfl rfl (ok_iload 21 rfl rfl rfl (ok_callSI (M' := M_Jo_rowOf) (as := [_, _]) 22 rfl rfl ml_X0_26 (s_Jo_rowOf) ⟨Nat.le_of_ble_eq_true rfl, Nat.le_of_ble_eq_true rfl⟩ rfl (Nat.le_of_ble_eq_true rfl) (fun σ' z hz => ?_))))
    rw [hz.1, hz.2]
    clear hz z σ'
    refine ok_iload 23 rfl rfl rfl (ok_iconst 24 rfl rfl (by decide) (ok_ixor 25 rfl rfl (ok_iand 26 rfl rfl (ok_ist8 27 rfl rfl rfl (ok_ldc2 28 (-1) rfl rfl kc_X0_44 (by decide) (ok_lst9 29 rfl rfl rfl (ok_iconst 30 rfl rfl (by decide) (ok_ist11 31 rfl rfl rfl ?_))))))))
    obtain ⟨o, eo⟩ : ∃ o : Int, o = iand (rowJ J (pc s)) (ixor s (-1)) := ⟨_, rfl⟩
    rw [← eo]
    refine lpO2 (fun (v j : Int) => [some (vr 16), some (vr c), some (vl J), none, some (vi n), some (vi (p2 n - 1)), some (vi s), some (vi (pc s)), some (vi o), some (vl v), none, some (vi j)]) (fun _ _ => ρ) (fun v j => 0 ≤ j ∧ j ≤ n ∧ v ≤ 799999992 * (n - pc s) ∧ dpQ 1 op w (fun k => ρ 18 k) s j v) (fun _ j => (8 - j).toNat) ?_ (-1) 0 ⟨by omega, by omega, by omega, dpQ_0⟩
    rintro v j ⟨j1, j2, v0, v1⟩ ih2
    refine ok_iload 32 rfl rfl rfl (ok_iload 33 rfl rfl rfl (ok_icmp_ge 34 128 rfl rfl rfl (fun h59 => ?_) (fun h59 => ?_)))
    · refine ok_aload_n 74 rfl rfl rfl (ok_getR 75 rfl rfl fl_X0_15 rfl rfl (ok_iload 76 rfl rfl rfl (ok_lload 77 rfl rfl rfl (ok_last 78 rfl rfl rfl (by first | omega | (simp [up_if]; omega) | (simp [up_if] at *; omega)) (ok_inc6 79 rfl rfl rfl (by first | omega | (simp [up_if]; omega) | (simp [up_if] at *; omega)) (ok_goto 80 22 rfl rfl rfl ?_))))))
      have ej : j = n := by omega
      rw [ej] at v1
      refine ok_fg [some (vr 16), some (vr c), some (vl J), none, some (vi n), some (vi (p2 n - 1)), some (vi (s + -1)), none, none, none, none, none] ⟨rfl, rfl, rfl, rfl, rfl, rfl, trivial⟩ (ih (s + -1) _ ⟨by omega, by omega, fr_up f rfl, by rw [up_nk _ _ _ _ (by omega)]; exact hm, fun T a b => ?_⟩ (by omega))
      by_cases q : T = s
      · rw [q]
        refine ⟨dpQ_O hn.2 ⟨by omega, by omega⟩ v1 (up_same _ _ _ _) (fun k hk => up_nk _ _ _ _ (by omega)), ?_, ?_⟩
        · rw [up_same]; exact v1.1
        · rw [up_same]; exact v0
      · obtain ⟨x1, x2, x3⟩ := hT T (by omega) b
        refine ⟨dpO_cg hn.2 ⟨by omega, by omega⟩ (fun k hk => up_nk _ _ _ _ (by omega)) x1, ?_, ?_⟩
        · rw [up_nk _ _ _ _ (by omega)]; exact x2
        · rw [up_nk _ _ _ _ (by omega)]; exact x3
    · have hop := open_sp hn hJ (T := s) ⟨by omega, by omega⟩ ⟨p4, p3⟩ (j := j) ⟨j1, by omega⟩
      rw [← eo] at hop
      have e2 := bitP (s := s) (j := j) (by omega) (by omega)
      have sl := sB_lt (s := s) (j := j) (n := n) ⟨by omega, by omega⟩ ⟨by omega, by omega⟩
      have vq := v1.1
      refine ok_iload 35 rfl rfl rfl (ok_iload 36 rfl rfl rfl (ok_ishr 37 rfl rfl (ok_iconst 38 rfl rfl (by decide) (ok_iand 39 rfl rfl (ok_if_eq 40 122 rfl rfl rfl (fun h69 => ?_) (fun h69 => ?_))))))
      · refine ok_inc11 72 rfl rfl rfl (by first | omega | (simp [up_if]; omega) | (simp [up_if] at *; omega)) (ok_goto 73 55 rfl rfl rfl ?_)
        exact ih2 _ (j + 1) ⟨by omega, by omega, v0, dpQ_no v1 (fun q => hop.2.mp h69 ⟨q.1, q.2.1⟩)⟩ (by omega)
      · obtain ⟨ob, oo⟩ := hop.1.mp h69
        have cb := hc (pc s * 8 + j) (by omega) (by omega)
        have wj : w (pc s) j = ρ c (pc s * 8 + j) := by rw [ew, f c _ hc18]
        rw [← f c (pc s * 8 + j) hc18] at cb
        have ss := (bitC (s := s) (j := j) ⟨by omega, by omega⟩ ⟨by omega, by omega⟩ ob)
        have vs : -1 ≤ ρ 18 (sB s j) ∧ ρ 18 (sB s j) ≤ 799999992 * (n - pc s - 1) := by
          by_cases q : sB s j = p2 n - 1
          · rw [q, hm]; omega
          · have := (hT _ ss.2 (by omega)).2; omega
        refine ok_aload_n 41 rfl rfl rfl (ok_getR 42 rfl rfl fl_X0_15 rfl rfl (ok_iload 43 rfl rfl rfl (ok_iconst 44 rfl rfl (by decide) (ok_iload 45 rfl rfl rfl (ok_ishl 46 rfl rfl (ok_ior 47 rfl rfl ?_))))))
        rw [e2]
        refine ok_lald 48 rfl rfl rfl (by omega) (ok_ldc2 49 (-1) rfl rfl kc_X0_44 (by decide) (ok_lcmp_eq 50 51 122 rfl rfl rfl rfl rfl (fun h87 => ?_) (fun h87 => ?_)))
        · refine ok_inc11 72 rfl rfl rfl (by first | omega | (simp [up_if]; omega) | (simp [up_if] at *; omega)) (ok_goto 73 55 rfl rfl rfl ?_)
          exact ih2 _ (j + 1) ⟨by omega, by omega, v0, dpQ_no v1 (fun y => by have y3 : 0 ≤ ρ 18 (sB s j) := y.2.2; omega)⟩ (by omega)
        · refine ok_lload 52 rfl rfl rfl (ok_aload_n 53 rfl rfl rfl (ok_iload 54 rfl rfl rfl (ok_bipush 55 rfl rfl (by decide) (by decide) (ok_imul 56 rfl rfl (by first | omega | (simp [up_if]; omega) | (simp [up_if] at *; omega)) (ok_iload 57 rfl rfl rfl (ok_iadd 58 rfl rfl (by first | omega | (simp [up_if]; omega) | (simp [up_if] at *; omega)) (ok_iald 59 rfl rfl hs (by first | omega | (simp [up_if]; omega) | (simp [up_if] at *; omega)) (ok_i2l 60 rfl rfl (ok_aload_n 61 rfl rfl rfl (ok_getR 62 rfl rfl fl_X0_15 rfl rfl (ok_iload 63 rfl rfl rfl (ok_iconst 64 rfl rfl (by decide) (ok_iload 65 rfl rfl rfl (ok_ishl 66 rfl rfl (ok_ior 67 rfl rfl ?_)))))))))))))))
          rw [e2]
          refine ok_lald 68 rfl rfl rfl (by omega) (ok_ladd 69 rfl rfl (by first | omega | (simp [up_if]; omega) | (simp [up_if] at *; omega)) (ok_mmaxL 70 rfl rfl ml_X0_52 ⟨Nat.le_of_ble_eq_true rfl, Nat.le_of_ble_eq_true rfl⟩ (ok_lst9 71 rfl rfl rfl (ok_inc11 72 rfl rfl rfl (by first | omega | (simp [up_if]; omega) | (simp [up_if] at *; omega)) (ok_goto 73 55 rfl rfl rfl ?_)))))
          exact ih2 _ (j + 1) ⟨by omega, by omega, by omega, dpQ_yes v1 j1 ⟨ob, oo, by show 0 ≤ ρ 18 (sB s j); omega⟩ (by unfold cmbG; rw [if_neg (by decide), wj]) (by omega)⟩ (by omega)
