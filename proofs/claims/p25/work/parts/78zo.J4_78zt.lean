section
/-! THE GREATEST over what is open: what the sets' numbers must be, and that they are unique -/
def okO (op : Int → Int → Prop) (v : Int → Int) (T j : Int) : Prop := bt T j = false ∧ op (pc T) j ∧ 0 ≤ v (sB T j)
def dpO (n sums : Int) (op : Int → Int → Prop) (w : Int → Int → Int) (v : Int → Int) (T : Int) : Prop := (∀ j, 0 ≤ j → j < n → okO op v T j → cmbG sums (w (pc T) j) (v (sB T j)) ≤ v T) ∧ ((v T = -1 ∧ ∀ j, 0 ≤ j → j < n → ¬ okO op v T j) ∨ ∃ j, 0 ≤ j ∧ j < n ∧ okO op v T j ∧ v T = cmbG sums (w (pc T) j) (v (sB T j)))
theorem dpO_of {n l sums : Int} {w : Int → Int → Int} {v : Int → Int} {T : Int} (h : dpG n l sums w v T) : dpO n sums (fun i j => l ≤ w i j) w v T := h
theorem okO_cg {op : Int → Int → Prop} {v v' : Int → Int} {T j : Int} (e : v' (sB T j) = v (sB T j)) : okO op v' T j ↔ okO op v T j := by unfold okO; rw [e]
theorem dpO_cg {n sums : Int} {op : Int → Int → Prop} {w : Int → Int → Int} {v v' : Int → Int} {T : Int} (hn : n ≤ 8) (hT : 0 ≤ T ∧ T < 256) (e : ∀ k, T ≤ k → v' k = v k) (h : dpO n sums op w v T) : dpO n sums op w v' T := by
  have es : ∀ j, 0 ≤ j → j < n → bt T j = false → v' (sB T j) = v (sB T j) := fun j a b c => e _ (by have := (bitC hT ⟨a, by omega⟩ c).2; omega)
  refine ⟨fun j a b c => ?_, ?_⟩
  · rw [e T (Int.le_refl _), es j a b c.1]
    exact h.1 j a b ((okO_cg (es j a b c.1)).mp c)
  · rw [e T (Int.le_refl _)]
    rcases h.2 with q | ⟨j, a, b, c, d⟩
    · exact Or.inl ⟨q.1, fun j a b c => q.2 j a b ((okO_cg (es j a b c.1)).mp c)⟩
    · exact Or.inr ⟨j, a, b, (okO_cg (es j a b c.1)).mpr c, by rw [es j a b c.1]; exact d⟩
theorem dpO_un {n sums : Int} {op op' : Int → Int → Prop} {w w' : Int → Int → Int} {v v' : Int → Int} (hn : 0 ≤ n ∧ n ≤ 8) (he : ∀ i j, 0 ≤ i → i < n → 0 ≤ j → j < n → (op i j ↔ op' i j)) (hw : ∀ i j, 0 ≤ i → i < n → 0 ≤ j → j < n → w i j = w' i j) (hf : v (p2 n - 1) = v' (p2 n - 1)) (h : ∀ T, 0 ≤ T → T < p2 n - 1 → dpO n sums op w v T) (h' : ∀ T, 0 ≤ T → T < p2 n - 1 → dpO n sums op' w' v' T) : ∀ T, 0 ≤ T → T < p2 n → v T = v' T := by
  have b2 := bit2 hn
  have key : ∀ (m : Nat) (T : Int), 0 ≤ T → T < p2 n → p2 n - T ≤ (m : Int) → v T = v' T := by
    intro m
    induction m with
    | zero => intro T a b c; omega
    | succ m ih =>
      intro T a b c
      by_cases q : T = p2 n - 1
      · rw [q]; exact hf
      · have hp := bitL (s := T) (n := n) ⟨a, by omega⟩ hn
        have hp1 := hp.1 (by omega)
        have hp0 := hp.2.2.1
        have es : ∀ j, 0 ≤ j → j < n → bt T j = false → v (sB T j) = v' (sB T j) := fun j j0 jn jb => by
          have x := (bitC (s := T) (j := j) ⟨a, by omega⟩ ⟨j0, by omega⟩ jb).2
          have y := sB_lt (s := T) (j := j) (n := n) ⟨a, b⟩ ⟨j0, jn⟩
          exact ih _ y.1 y.2 (by omega)
        have eo : ∀ j, 0 ≤ j → j < n → (okO op v T j ↔ okO op' v' T j) := fun j j0 jn => by
          unfold okO
          constructor
          · rintro ⟨x, y, z⟩; exact ⟨x, (he _ j hp0 hp1 j0 jn).mp y, by rw [← es j j0 jn x]; exact z⟩
          · rintro ⟨x, y, z⟩; exact ⟨x, (he _ j hp0 hp1 j0 jn).mpr y, by rw [es j j0 jn x]; exact z⟩
        obtain ⟨a1, a2⟩ := h T a (by omega)
        obtain ⟨b1, b3⟩ := h' T a (by omega)
        have ec : ∀ j, 0 ≤ j → j < n → bt T j = false → cmbG sums (w (pc T) j) (v (sB T j)) = cmbG sums (w' (pc T) j) (v' (sB T j)) := fun j j0 jn jb => by rw [hw _ j hp0 hp1 j0 jn, es j j0 jn jb]
        rcases a2 with a2 | ⟨j, j0, jn, jo, je⟩ <;> rcases b3 with b3 | ⟨i, i0, i1, io, ie⟩
        · rw [a2.1, b3.1]
        · exact absurd ((eo i i0 i1).mpr io) (a2.2 i i0 i1)
        · exact absurd ((eo j j0 jn).mp jo) (b3.2 j j0 jn)
        · have x := b1 j j0 jn ((eo j j0 jn).mp jo)
          have y := a1 i i0 i1 ((eo i i0 i1).mpr io)
          rw [← ec j j0 jn jo.1, ← je] at x
          rw [ec i i0 i1 io.1, ← ie] at y
          omega
  exact fun T a b => key (p2 n - T).toNat T a b (by omega)
/-- the walk over the columns of one set -/
def dpQ (sums : Int) (op : Int → Int → Prop) (w : Int → Int → Int) (v : Int → Int) (T j x : Int) : Prop := -1 ≤ x ∧ (∀ j', 0 ≤ j' → j' < j → okO op v T j' → cmbG sums (w (pc T) j') (v (sB T j')) ≤ x) ∧ ((x = -1 ∧ ∀ j', 0 ≤ j' → j' < j → ¬ okO op v T j') ∨ ∃ j', 0 ≤ j' ∧ j' < j ∧ okO op v T j' ∧ x = cmbG sums (w (pc T) j') (v (sB T j')))
theorem dpQ_0 {sums T : Int} {op : Int → Int → Prop} {w : Int → Int → Int} {v : Int → Int} : dpQ sums op w v T 0 (-1) := ⟨by omega, fun j' a b => by omega, Or.inl ⟨rfl, fun j' a b => by omega⟩⟩
theorem dpQ_no {sums T j x : Int} {op : Int → Int → Prop} {w : Int → Int → Int} {v : Int → Int} (h : dpQ sums op w v T j x) (hno : ¬ okO op v T j) : dpQ sums op w v T (j + 1) x := by
  refine ⟨h.1, fun j' a b c => ?_, ?_⟩
  · rcases (by omega : j' < j ∨ j' = j) with q | q
    · exact h.2.1 j' a q c
    · rw [q] at c; exact absurd c hno
  · rcases h.2.2 with q | ⟨j', a, b, c, d⟩
    · refine Or.inl ⟨q.1, fun j' a b => ?_⟩
      rcases (by omega : j' < j ∨ j' = j) with y | y
      · exact q.2 j' a y
      · rw [y]; exact hno
    · exact Or.inr ⟨j', a, by omega, c, d⟩
theorem dpQ_yes {sums T j x y : Int} {op : Int → Int → Prop} {w : Int → Int → Int} {v : Int → Int} (h : dpQ sums op w v T j x) (hj : 0 ≤ j) (ho : okO op v T j) (hy : y = cmbG sums (w (pc T) j) (v (sB T j))) (hy0 : 0 ≤ y) : dpQ sums op w v T (j + 1) (max x y) := by
  refine ⟨by omega, fun j' a b c => ?_, ?_⟩
  · rcases (by omega : j' < j ∨ j' = j) with q | q
    · have := h.2.1 j' a q c; omega
    · rw [q, ← hy]; omega
  · by_cases m : x < y
    · exact Or.inr ⟨j, hj, by omega, ho, by rw [← hy]; omega⟩
    · rcases h.2.2 with q | ⟨j', a, b, c, d⟩
      · omega
      · exact Or.inr ⟨j', a, by omega, c, by omega⟩
theorem dpQ_O {n sums T x : Int} {op : Int → Int → Prop} {w : Int → Int → Int} {v v' : Int → Int} (hn : n ≤ 8) (hT : 0 ≤ T ∧ T < 256) (h : dpQ sums op w v T n x) (e0 : v' T = x) (e : ∀ k, T < k → v' k = v k) : dpO n sums op w v' T := by
  have es : ∀ j, 0 ≤ j → j < n → bt T j = false → v' (sB T j) = v (sB T j) := fun j a b c => e _ (by have := (bitC hT ⟨a, by omega⟩ c).2; omega)
  refine ⟨fun j a b c => ?_, ?_⟩
  · rw [e0, es j a b c.1]
    exact h.2.1 j a b ((okO_cg (es j a b c.1)).mp c)
  · rw [e0]
    rcases h.2.2 with q | ⟨j, a, b, c, d⟩
    · exact Or.inl ⟨q.1, fun j a b c => q.2 j a b ((okO_cg (es j a b c.1)).mp c)⟩
    · exact Or.inr ⟨j, a, b, (okO_cg (es j a b c.1)).mpr c, by rw [es j a b c.1]; exact d⟩
/-- what is open at a set: the row's joins without the used columns -/
theorem open_sp {J n T : Int} {op : Int → Int → Prop} (hn : 0 ≤ n ∧ n ≤ 8) (hJ : jOf J n op) (hT : 0 ≤ T ∧ T < 256) (hp : 0 ≤ pc T ∧ pc T < n) {j : Int} (hj : 0 ≤ j ∧ j < n) : (iand (ishr (iand (rowJ J (pc T)) (ixor T (-1))) j) 1 ≠ 0 ↔ (bt T j = false ∧ op (pc T) j)) ∧ (iand (ishr (iand (rowJ J (pc T)) (ixor T (-1))) j) 1 = 0 ↔ ¬ (bt T j = false ∧ op (pc T) j)) := by
  have rj := rowJ_sp (J := J) (r := pc T) ⟨by omega, by omega⟩
  have os := opn_sp rj.1 hT
  have bz := b_nz (j := j) os.1 ⟨by omega, by omega⟩
  have e : bt (iand (rowJ J (pc T)) (ixor T (-1))) j = true ↔ (bt T j = false ∧ op (pc T) j) := by
    rw [os.2 j hj.1 (by omega), rj.2 j hj.1 (by omega)]
    have := hJ.2 (pc T) j hp.1 (by omega) hj.1 (by omega)
    constructor
    · intro q
      rw [Bool.and_eq_true, Bool.not_eq_true'] at q
      exact ⟨q.2, (this.mp q.1).2.2⟩
    · rintro ⟨q1, q2⟩
      rw [Bool.and_eq_true, Bool.not_eq_true']
      exact ⟨this.mpr ⟨hp.2, hj.2, q2⟩, q1⟩
  exact ⟨bz.1.trans e, ⟨fun q w => by have := bz.1.mpr (e.mpr w); exact this q, fun q => by
    by_cases w : iand (ishr (iand (rowJ J (pc T)) (ixor T (-1))) j) 1 = 0
    · exact w
    · exact absurd (e.mp (bz.1.mp w)) q⟩⟩
theorem t_Ch_greatestLeast {σ : eS} {c : Nat} {J n : Int} {op : Int → Int → Prop} (hs : nth shA c = some (1, 64, [])) (hn : 0 ≤ n ∧ n ≤ 8) (hJ : jOf J n op) (hc18 : c ≠ 18) (hc : ∀ k : Int, 0 ≤ k → k < 64 → 0 ≤ σ c k ∧ σ c k ≤ 799999992) : MtL shA M_Ch_greatestLeast [vr 16, vr c, vl J, vi n] σ (fun σ' z => fr (fun c _ => c = 18) σ σ' ∧ z = σ' 18 0 ∧ σ' 18 (p2 n - 1) = 9223372036854775807 ∧ ∀ T, 0 ≤ T → T < p2 n - 1 → dpO n 0 op (fun i j => σ c (i * 8 + j)) (fun k => σ' 18 k) T ∧ -1 ≤ σ' 18 T ∧ σ' 18 T ≤ 799999992) := by
  refine Mt.of okM_Ch_greatestLeast (Nat.le_of_ble_eq_true rfl) (fun hk hg => ?_)
  have b2 := bit2 hn
  obtain ⟨w, ew⟩ : ∃ w : Int → Int → Int, w = fun i j => σ c (i * 8 + j) := ⟨_, rfl⟩
  rw [← ew]
  refine ok_iconst 0 rfl rfl (by decide) (ok_iload 1 rfl rfl rfl (ok_ishl 2 rfl rfl ?_))
  rw [b2.1]
  refine ok_iconst 3 rfl rfl (by decide) (ok_isub 4 rfl rfl (by first | omega | (simp [up_if]; omega) | (simp [up_if] at *; omega)) (ok_ist5 5 rfl rfl rfl (ok_aload_n 6 rfl rfl rfl (ok_getR 7 rfl rfl fl_X0_15 rfl rfl (ok_iload 8 rfl rfl rfl (ok_ldc2 9 (9223372036854775807) rfl rfl kc_X0_36 (by decide) (ok_last 10 rfl rfl rfl (by first | omega | (simp [up_if]; omega) | (simp [up_if] at *; omega)) (ok_iload 11 rfl rfl rfl (ok_iconst 12 rfl rfl (by decide) (ok_isub 13 rfl rfl (by first | omega | (simp [up_if]; omega) | (simp [up_if] at *; omega)) (ok_ist6 14 rfl rfl rfl ?_)))))))))))
  refine lpO2 (fun (s : Int) (_ : eS) => [some (vr 16), some (vr c), some (vl J), none, some (vi n), some (vi (p2 n - 1)), some (vi s), none, none, none, none, none]) (fun _ ρ => ρ) (fun s ρ => -1 ≤ s ∧ s < p2 n - 1 ∧ fr (fun c _ => c = 18) σ ρ ∧ ρ 18 (p2 n - 1) = 9223372036854775807 ∧ ∀ T, s < T → T < p2 n - 1 → dpO n 0 op w (fun k => ρ 18 k) T ∧ -1 ≤ ρ 18 T ∧ ρ 18 T ≤ 799999992) (fun s _ => (s + 1).toNat) ?_ (p2 n - 1 - 1) _ ⟨by omega, by omega, fr_up fr.rf rfl, up_same _ _ _ _, fun T a b => by omega⟩
  rintro s ρ ⟨s1, s2, f, hm, hT⟩ ih
  refine ok_iload 15 rfl rfl rfl (ok_if_lt 16 128 rfl rfl rfl (fun h26 => ?_) (fun h26 => ?_))
  · refine ok_aload_n 70 rfl rfl rfl (ok_getR 71 rfl rfl fl_X0_15 rfl rfl (ok_iconst 72 rfl rfl (by decide) (ok_lald 73 rfl rfl rfl (by first | omega | (simp [up_if]; omega) | (simp [up_if] at *; omega)) (ok_lret 74 rfl rfl rfl ?_))))
    exact ⟨_, rfl, f, rfl, hm, fun T a b => hT T (by omega) b⟩
  · refine ok_iload 17 rfl rfl rfl (ok_callSI (M' := M_Ji_bitCount) (as := [_]) 18 rfl rfl ml_X0_38 (s_Ji_bitCount) ⟨Nat.le_of_ble_eq_true rfl, Nat.le_of_ble_eq_true rfl⟩ rfl (Nat.le_of_ble_eq_true rfl) (fun σ' z hz => ?_))
    rw [hz.1, hz.2]
    clear hz z σ'
    have p1 := (bitL (s := s) ⟨by omega, by omega⟩ hn)
    have p3 := p1.1 s2
    have p4 := p1.2.2.1
    clear p1
    rw [bcP (s := s) ⟨by omega, by omega⟩]
    refine ok_ist7 19 rfl rfl rfl (ok_lload_n 20 rfl rfl rfl (ok_iload 21 rfl rfl rfl (ok_callSI (M' := M_Jo_rowOf) (as := [_, _]) 22 rfl rfl ml_X0_26 (s_Jo_rowOf) ⟨Nat.le_of_ble_eq_true rfl, Nat.le_of_ble_eq_true rfl⟩ rfl (Nat.le_of_ble_eq_true rfl) (fun σ' z hz => ?_))))
    rw [hz.1, hz.2]
    clear hz z σ'
    refine ok_iload 23 rfl rfl rfl (ok_iconst 24 rfl rfl (by decide) (ok_ixor 25 rfl rfl (ok_iand 26 rfl rfl (ok_ist8 27 rfl rfl rfl (ok_ldc2 28 (-1) rfl rfl kc_X0_44 (by decide) (ok_lst9 29 rfl rfl rfl (ok_iconst 30 rfl rfl (by decide) (ok_ist11 31 rfl rfl rfl ?_))))))))
    obtain ⟨o, eo⟩ : ∃ o : Int, o = iand (rowJ J (pc s)) (ixor s (-1)) := ⟨_, rfl⟩
    rw [← eo]
    refine lpO2 (fun (v j : Int) => [some (vr 16), some (vr c), some (vl J), none, some (vi n), some (vi (p2 n - 1)), some (vi s), some (vi (pc s)), some (vi o), some (vl v), none, some (vi j)]) (fun _ _ => ρ) (fun v j => 0 ≤ j ∧ j ≤ n ∧ v ≤ 799999992 ∧ dpQ 0 op w (fun k => ρ 18 k) s j v) (fun _ j => (8 - j).toNat) ?_ (-1) 0 ⟨by omega, by omega, by omega, dpQ_0⟩
    rintro v j ⟨j1, j2, v0, v1⟩ ih2
    refine ok_iload 32 rfl rfl rfl (ok_iload 33 rfl rfl rfl (ok_icmp_ge 34 113 rfl rfl rfl (fun h61 => ?_) (fun h61 => ?_)))
    · refine ok_aload_n 63 rfl rfl rfl (ok_getR 64 rfl rfl fl_X0_15 rfl rfl (ok_iload 65 rfl rfl rfl (ok_lload 66 rfl rfl rfl (ok_last 67 rfl rfl rfl (by first | omega | (simp [up_if]; omega) | (simp [up_if] at *; omega)) (ok_inc6 68 rfl rfl rfl (by first | omega | (simp [up_if]; omega) | (simp [up_if] at *; omega)) (ok_goto 69 24 rfl rfl rfl ?_))))))
      have ej : j = n := by omega
      rw [ej] at v1
      refine ok_fg [some (vr 16), some (vr c), some (vl J), none, some (vi n), some (vi (p2 n - 1)), some (vi (s + -1)), none, none, none, none, none] ⟨rfl, rfl, rfl, rfl, rfl, rfl, trivial⟩ (ih (s + -1) _ ⟨by omega, by omega, fr_up f rfl, by rw [up_nk _ _ _ _ (by omega)]; exact hm, fun T a b => ?_⟩ (by omega))
      by_cases q : T = s
      · rw [q]
        refine ⟨dpQ_O hn.2 ⟨by omega, by omega⟩ v1 (up_same _ _ _ _) (fun k hk => up_nk _ _ _ _ (by omega)), ?_, ?_⟩
        · rw [up_same]; exact v1.1
        · rw [up_same]; exact v0
      · obtain ⟨x1, x2, x3⟩ := hT T (by omega) b
        refine ⟨dpO_cg hn.2 ⟨by omega, by omega⟩ (fun k hk => up_nk _ _ _ _ (by omega)) x1, ?_, ?_⟩
        · rw [up_nk _ _ _ _ (by omega)]; exact x2
        · rw [up_nk _ _ _ _ (by omega)]; exact x3
    · have hop := open_sp hn hJ (T := s) ⟨by omega, by omega⟩ ⟨p4, p3⟩ (j := j) ⟨j1, by omega⟩
      rw [← eo] at hop
      have e2 := bitP (s := s) (j := j) (by omega) (by omega)
      have sl := sB_lt (s := s) (j := j) (n := n) ⟨by omega, by omega⟩ ⟨by omega, by omega⟩
      have vq := v1.1
      refine ok_iload 35 rfl rfl rfl (ok_iload 36 rfl rfl rfl (ok_ishr 37 rfl rfl (ok_iconst 38 rfl rfl (by decide) (ok_iand 39 rfl rfl (ok_if_eq 40 107 rfl rfl rfl (fun h71 => ?_) (fun h71 => ?_))))))
      · refine ok_inc11 61 rfl rfl rfl (by first | omega | (simp [up_if]; omega) | (simp [up_if] at *; omega)) (ok_goto 62 57 rfl rfl rfl ?_)
        exact ih2 _ (j + 1) ⟨by omega, by omega, v0, dpQ_no v1 (fun q => hop.2.mp h71 ⟨q.1, q.2.1⟩)⟩ (by omega)
      · refine ok_lload 41 rfl rfl rfl (ok_aload_n 42 rfl rfl rfl (ok_iload 43 rfl rfl rfl (ok_bipush 44 rfl rfl (by decide) (by decide) (ok_imul 45 rfl rfl (by first | omega | (simp [up_if]; omega) | (simp [up_if] at *; omega)) (ok_iload 46 rfl rfl rfl (ok_iadd 47 rfl rfl (by first | omega | (simp [up_if]; omega) | (simp [up_if] at *; omega)) (ok_iald 48 rfl rfl hs (by first | omega | (simp [up_if]; omega) | (simp [up_if] at *; omega)) (ok_i2l 49 rfl rfl (ok_aload_n 50 rfl rfl rfl (ok_getR 51 rfl rfl fl_X0_15 rfl rfl (ok_iload 52 rfl rfl rfl (ok_iconst 53 rfl rfl (by decide) (ok_iload 54 rfl rfl rfl (ok_ishl 55 rfl rfl (ok_ior 56 rfl rfl ?_)))))))))))))))
        rw [e2]
        refine ok_lald 57 rfl rfl rfl (by omega) (ok_mminL 58 rfl rfl ml_X0_46 ⟨Nat.le_of_ble_eq_true rfl, Nat.le_of_ble_eq_true rfl⟩ (ok_mmaxL 59 rfl rfl ml_X0_52 ⟨Nat.le_of_ble_eq_true rfl, Nat.le_of_ble_eq_true rfl⟩ (ok_lst9 60 rfl rfl rfl (ok_inc11 61 rfl rfl rfl (by first | omega | (simp [up_if]; omega) | (simp [up_if] at *; omega)) (ok_goto 62 57 rfl rfl rfl ?_)))))
        obtain ⟨ob, oo⟩ := hop.1.mp h71
        have cb := hc (pc s * 8 + j) (by omega) (by omega)
        have wj : w (pc s) j = ρ c (pc s * 8 + j) := by rw [ew, f c _ hc18]
        rw [← f c (pc s * 8 + j) hc18] at cb
        have ss := (bitC (s := s) (j := j) ⟨by omega, by omega⟩ ⟨by omega, by omega⟩ ob).2
        have vs : -1 ≤ ρ 18 (sB s j) := by
          by_cases q : sB s j = p2 n - 1
          · rw [q, hm]; decide
          · exact (hT _ ss (by omega)).2.1
        refine ih2 _ (j + 1) ⟨by omega, by omega, by omega, ?_⟩ (by omega)
        by_cases q : 0 ≤ ρ 18 (sB s j)
        · exact dpQ_yes v1 j1 ⟨ob, oo, q⟩ (by unfold cmbG; rw [if_pos rfl, wj]) (by omega)
        · have e : max v (min (ρ c (pc s * 8 + j)) (ρ 18 (sB s j))) = v := by omega
          rw [e]
          exact dpQ_no v1 (fun y => q y.2.2)
theorem t_Ch_sumUp {σ : eS} {c : Nat} {J n : Int} {op : Int → Int → Prop} (hs : nth shA c = some (1, 64, [])) (hn : 0 ≤ n ∧ n ≤ 8) (hJ : jOf J n op) (hc18 : c ≠ 18) (hc : ∀ k : Int, 0 ≤ k → k < 64 → 0 ≤ σ c k ∧ σ c k ≤ 799999992) : MtV shA M_Ch_sumUp [vr 16, vr c, vl J, vi n] σ (fun σ' => fr (fun c _ => c = 18) σ σ' ∧ σ' 18 (p2 n - 1) = 0 ∧ ∀ T, 0 ≤ T → T < p2 n - 1 → dpO n 1 op (fun i j => σ c (i * 8 + j)) (fun k => σ' 18 k) T ∧ -1 ≤ σ' 18 T ∧ σ' 18 T ≤ 799999992 * 8) := by
  refine Mt.of okM_Ch_sumUp (Nat.le_of_ble_eq_true rfl) (fun hk hg => ?_)
  have b2 := bit2 hn
  obtain ⟨w, ew⟩ : ∃ w : Int → Int → Int, w = fun i j => σ c (i * 8 + j) := ⟨_, rfl⟩
  rw [← ew]
  refine ok_iconst 0 rfl rfl (by decide) (ok_iload 1 rfl rfl rfl (ok_ishl 2 rfl rfl ?_))
  rw [b2.1]
  refine ok_iconst 3 rfl rfl (by decide) (ok_isub 4 rfl rfl (by first | omega | (simp [up_if]; omega) | (simp [up_if] at *; omega)) (ok_ist5 5 rfl rfl rfl (ok_aload_n 6 rfl rfl rfl (ok_getR 7 rfl rfl fl_X0_15 rfl rfl (ok_iload 8 rfl rfl rfl (ok_lconst (w := 0) 9 rfl rfl rfl (by decide) (ok_last 10 rfl rfl rfl (by first | omega | (simp [up_if]; omega) | (simp [up_if] at *; omega)) (ok_iload 11 rfl rfl rfl (ok_iconst 12 rfl rfl (by decide) (ok_isub 13 rfl rfl (by first | omega | (simp [up_if]; omega) | (simp [up_if] at *; omega)) (ok_ist6 14 rfl rfl rfl ?_)))))))))))
  refine lpO2 (fun (s : Int) (_ : eS) => [some (vr 16), some (vr c), some (vl J), none, some (vi n), some (vi (p2 n - 1)), some (vi s), none, none, none, none, none]) (fun _ ρ => ρ) (fun s ρ => -1 ≤ s ∧ s < p2 n - 1 ∧ fr (fun c _ => c = 18) σ ρ ∧ ρ 18 (p2 n - 1) = 0 ∧ ∀ T, s < T → T < p2 n - 1 → dpO n 1 op w (fun k => ρ 18 k) T ∧ -1 ≤ ρ 18 T ∧ ρ 18 T ≤ 799999992 * (n - pc T)) (fun s _ => (s + 1).toNat) ?_ (p2 n - 1 - 1) _ ⟨by omega, by omega, fr_up fr.rf rfl, up_same _ _ _ _, fun T a b => by omega⟩
  rintro s ρ ⟨s1, s2, f, hm, hT⟩ ih
  refine ok_iload 15 rfl rfl rfl (ok_if_lt 16 143 rfl rfl rfl (fun h24 => ?_) (fun h24 => ?_))
  · refine ok_vret 81 rfl rfl rfl ?_
    refine ⟨rfl, f, hm, fun T a b => ?_⟩
    obtain ⟨x1, x2, x3⟩ := hT T (by omega) b
    have := (bitL (s := T) (n := n) ⟨a, by omega⟩ hn).2.2.1
    exact ⟨x1, x2, by omega⟩
  · refine ok_iload 17 rfl rfl rfl (ok_callSI (M' := M_Ji_bitCount) (as := [_]) 18 rfl rfl ml_X0_38 (s_Ji_bitCount) ⟨Nat.le_of_ble_eq_true rfl, Nat.le_of_ble_eq_true rfl⟩ rfl (Nat.le_of_ble_eq_true rfl) (fun σ' z hz => ?_))
    rw [hz.1, hz.2]
    clear hz z σ'
    have p1 := (bitL (s := s) ⟨by omega, by omega⟩ hn)
    have p3 := p1.1 s2
    have p4 := p1.2.2.1
    clear p1
    rw [bcP (s := s) ⟨by omega, by omega⟩]
    refine ok_ist7 19 rfl rfl rfl (ok_lload_n 20 rfl rfl rfl (ok_iload 21 rfl rfl rfl (ok_callSI (M' := M_Jo_rowOf) (as := [_, _]) 22 rfl rfl ml_X0_26 (s_Jo_rowOf) ⟨Nat.le_of_ble_eq_true rfl, Nat.le_of_ble_eq_true rfl⟩ rfl (Nat.le_of_ble_eq_true rfl) (fun σ' z hz => ?_))))
    rw [hz.1, hz.2]
    clear hz z σ'
    refine ok_iload 23 rfl rfl rfl (ok_iconst 24 rfl rfl (by decide) (ok_ixor 25 rfl rfl (ok_iand 26 rfl rfl (ok_ist8 27 rfl rfl rfl (ok_ldc2 28 (-1) rfl rfl kc_X0_44 (by decide) (ok_lst9 29 rfl rfl rfl (ok_iconst 30 rfl rfl (by decide) (ok_ist11 31 rfl rfl rfl ?_))))))))
    obtain ⟨o, eo⟩ : ∃ o : Int, o = iand (rowJ J (pc s)) (ixor s (-1)) := ⟨_, rfl⟩
    rw [← eo]
    refine lpO2 (fun (v j : Int) => [some (vr 16), some (vr c), some (vl J), none, some (vi n), some (vi (p2 n - 1)), some (vi s), some (vi (pc s)), some (vi o), some (vl v), none, some (vi j)]) (fun _ _ => ρ) (fun v j => 0 ≤ j ∧ j ≤ n ∧ v ≤ 799999992 * (n - pc s) ∧ dpQ 1 op w (fun k => ρ 18 k) s j v) (fun _ j => (8 - j).toNat) ?_ (-1) 0 ⟨by omega, by omega, by omega, dpQ_0⟩
    rintro v j ⟨j1, j2, v0, v1⟩ ih2
    refine ok_iload 32 rfl rfl rfl (ok_iload 33 rfl rfl rfl (ok_icmp_ge 34 128 rfl rfl rfl (fun h59 => ?_) (fun h59 => ?_)))
    · refine ok_aload_n 74 rfl rfl rfl (ok_getR 75 rfl rfl fl_X0_15 rfl rfl (ok_iload 76 rfl rfl rfl (ok_lload 77 rfl rfl rfl (ok_last 78 rfl rfl rfl (by first | omega | (simp [up_if]; omega) | (simp [up_if] at *; omega)) (ok_inc6 79 rfl rfl rfl (by first | omega | (simp [up_if]; omega) | (simp [up_if] at *; omega)) (ok_goto 80 22 rfl rfl rfl ?_))))))
      have ej : j = n := by omega
      rw [ej] at v1
      refine ok_fg [some (vr 16), some (vr c), some (vl J), none, some (vi n), some (vi (p2 n - 1)), some (vi (s + -1)), none, none, none, none, none] ⟨rfl, rfl, rfl, rfl, rfl, rfl, trivial⟩ (ih (s + -1) _ ⟨by omega, by omega, fr_up f rfl, by rw [up_nk _ _ _ _ (by omega)]; exact hm, fun T a b => ?_⟩ (by omega))
      by_cases q : T = s
      · rw [q]
        refine ⟨dpQ_O hn.2 ⟨by omega, by omega⟩ v1 (up_same _ _ _ _) (fun k hk => up_nk _ _ _ _ (by omega)), ?_, ?_⟩
        · rw [up_same]; exact v1.1
        · rw [up_same]; exact v0
      · obtain ⟨x1, x2, x3⟩ := hT T (by omega) b
        refine ⟨dpO_cg hn.2 ⟨by omega, by omega⟩ (fun k hk => up_nk _ _ _ _ (by omega)) x1, ?_, ?_⟩
        · rw [up_nk _ _ _ _ (by omega)]; exact x2
        · rw [up_nk _ _ _ _ (by omega)]; exact x3
    · have hop := open_sp hn hJ (T := s) ⟨by omega, by omega⟩ ⟨p4, p3⟩ (j := j) ⟨j1, by omega⟩
      rw [← eo] at hop
      have e2 := bitP (s := s) (j := j) (by omega) (by omega)
      have sl := sB_lt (s := s) (j := j) (n := n) ⟨by omega, by omega⟩ ⟨by omega, by omega⟩
      have vq := v1.1
      refine ok_iload 35 rfl rfl rfl (ok_iload 36 rfl rfl rfl (ok_ishr 37 rfl rfl (ok_iconst 38 rfl rfl (by decide) (ok_iand 39 rfl rfl (ok_if_eq 40 122 rfl rfl rfl (fun h69 => ?_) (fun h69 => ?_))))))
      · refine ok_inc11 72 rfl rfl rfl (by first | omega | (simp [up_if]; omega) | (simp [up_if] at *; omega)) (ok_goto 73 55 rfl rfl rfl ?_)
        exact ih2 _ (j + 1) ⟨by omega, by omega, v0, dpQ_no v1 (fun q => hop.2.mp h69 ⟨q.1, q.2.1⟩)⟩ (by omega)
      · obtain ⟨ob, oo⟩ := hop.1.mp h69
        have cb := hc (pc s * 8 + j) (by omega) (by omega)
        have wj : w (pc s) j = ρ c (pc s * 8 + j) := by rw [ew, f c _ hc18]
        rw [← f c (pc s * 8 + j) hc18] at cb
        have ss := (bitC (s := s) (j := j) ⟨by omega, by omega⟩ ⟨by omega, by omega⟩ ob)
        have vs : -1 ≤ ρ 18 (sB s j) ∧ ρ 18 (sB s j) ≤ 799999992 * (n - pc s - 1) := by
          by_cases q : sB s j = p2 n - 1
          · rw [q, hm]; omega
          · have := (hT _ ss.2 (by omega)).2; omega
        refine ok_aload_n 41 rfl rfl rfl (ok_getR 42 rfl rfl fl_X0_15 rfl rfl (ok_iload 43 rfl rfl rfl (ok_iconst 44 rfl rfl (by decide) (ok_iload 45 rfl rfl rfl (ok_ishl 46 rfl rfl (ok_ior 47 rfl rfl ?_))))))
        rw [e2]
        refine ok_lald 48 rfl rfl rfl (by omega) (ok_ldc2 49 (-1) rfl rfl kc_X0_44 (by decide) (ok_lcmp_eq 50 51 122 rfl rfl rfl rfl rfl (fun h87 => ?_) (fun h87 => ?_)))
        · refine ok_inc11 72 rfl rfl rfl (by first | omega | (simp [up_if]; omega) | (simp [up_if] at *; omega)) (ok_goto 73 55 rfl rfl rfl ?_)
          exact ih2 _ (j + 1) ⟨by omega, by omega, v0, dpQ_no v1 (fun y => by have y3 : 0 ≤ ρ 18 (sB s j) := y.2.2; omega)⟩ (by omega)
        · refine ok_lload 52 rfl rfl rfl (ok_aload_n 53 rfl rfl rfl (ok_iload 54 rfl rfl rfl (ok_bipush 55 rfl rfl (by decide) (by decide) (ok_imul 56 rfl rfl (by first | omega | (simp [up_if]; omega) | (simp [up_if] at *; omega)) (ok_iload 57 rfl rfl rfl (ok_iadd 58 rfl rfl (by first | omega | (simp [up_if]; omega) | (simp [up_if] at *; omega)) (ok_iald 59 rfl rfl hs (by first | omega | (simp [up_if]; omega) | (simp [up_if] at *; omega)) (ok_i2l 60 rfl rfl (ok_aload_n 61 rfl rfl rfl (ok_getR 62 rfl rfl fl_X0_15 rfl rfl (ok_iload 63 rfl rfl rfl (ok_iconst 64 rfl rfl (by decide) (ok_iload 65 rfl rfl rfl (ok_ishl 66 rfl rfl (ok_ior 67 rfl rfl ?_)))))))))))))))
          rw [e2]
          refine ok_lald 68 rfl rfl rfl (by omega) (ok_ladd 69 rfl rfl (by first | omega | (simp [up_if]; omega) | (simp [up_if] at *; omega)) (ok_mmaxL 70 rfl rfl ml_X0_52 ⟨Nat.le_of_ble_eq_true rfl, Nat.le_of_ble_eq_true rfl⟩ (ok_lst9 71 rfl rfl rfl (ok_inc11 72 rfl rfl rfl (by first | omega | (simp [up_if]; omega) | (simp [up_if] at *; omega)) (ok_goto 73 55 rfl rfl rfl ?_)))))
          exact ih2 _ (j + 1) ⟨by omega, by omega, by omega, dpQ_yes v1 j1 ⟨ob, oo, by show 0 ≤ ρ 18 (sB s j); omega⟩ (by unfold cmbG; rw [if_neg (by decide), wj]) (by omega)⟩ (by omega)
end
section
/-! FIRST CHOICES -/
def fstC (n : Int) (good : Int → Int → Prop) (ch : Int → Int) : Prop := ∀ i : Int, 0 ≤ i → i < n → 0 ≤ ch i ∧ ch i < n ∧ good (cs ch i.toNat) (ch i) ∧ ∀ j, 0 ≤ j → j < ch i → ¬ good (cs ch i.toNat) j
theorem lex_fst {n : Int} {op : Int → Int → Prop} {ch : Int → Int} (h : lexCh n op ch) : fstC n (okJ n op) ch := h
theorem cs_n (f : Int → Int) (m : Nat) : cs f (m + 1) = sB (cs f m) (f m) := rfl
theorem cs_in {n : Int} {ch : Int → Int} (hn : 0 ≤ n ∧ n ≤ 8) : ∀ m : Nat, (m : Int) ≤ n → (∀ i : Int, 0 ≤ i → i < m → 0 ≤ ch i ∧ ch i < n ∧ bt (cs ch i.toNat) (ch i) = false) → 0 ≤ cs ch m ∧ cs ch m < p2 n ∧ pc (cs ch m) = m
  | 0, _, _ => by
    have := bit2 hn
    exact ⟨Int.le_refl _, by show (0 : Int) < p2 n; omega, pc_0⟩
  | m + 1, h, hi => by
    have b := bit2 hn
    obtain ⟨a1, a2, a3⟩ := cs_in hn m (by omega) (fun i x y => hi i x (by omega))
    obtain ⟨c1, c2, c3⟩ := hi m (by omega) (by omega)
    rw [Int.toNat_natCast] at c3
    have s := sB_lt (s := cs ch m) (j := ch m) (n := n) ⟨a1, a2⟩ ⟨c1, c2⟩
    have p := (bitC (s := cs ch m) (j := ch m) ⟨a1, by omega⟩ ⟨c1, by omega⟩ c3).1
    rw [cs_n]
    exact ⟨s.1, s.2, by omega⟩
theorem fst_un {n : Int} {good good' : Int → Int → Prop} {ch ch' : Int → Int} (hn : 0 ≤ n ∧ n ≤ 8) (hb : ∀ T j, good T j → bt T j = false) (e : ∀ T j, 0 ≤ T → T < p2 n → 0 ≤ pc T → pc T < n → 0 ≤ j → j < n → (good T j ↔ good' T j)) (h : fstC n good ch) (h' : fstC n good' ch') : ∀ i, 0 ≤ i → i < n → ch i = ch' i := by
  have key : ∀ m : Nat, (m : Int) ≤ n → ∀ k : Int, 0 ≤ k → k < m → ch k = ch' k := by
    intro m
    induction m with
    | zero => intro _ k a b; omega
    | succ m ih =>
      intro hm k a b
      have ihm := ih (by omega)
      rcases (by omega : k < m ∨ k = m) with q | q
      · exact ihm k a q
      · rw [q]
        have ec : cs ch m = cs ch' m := cs_cg ihm
        obtain ⟨t1, t2, t3⟩ := cs_in (ch := ch) hn m (by omega) (fun i x y => by have := h i x (by omega); exact ⟨this.1, this.2.1, hb _ _ this.2.2.1⟩)
        obtain ⟨a1, a2, a3, a4⟩ := h m (by omega) (by omega)
        obtain ⟨b1, b2, b3, b4⟩ := h' m (by omega) (by omega)
        rw [Int.toNat_natCast] at a3 a4 b3 b4
        rw [← ec] at b3 b4
        rcases (by omega : ch m < ch' m ∨ ch m = ch' m ∨ ch' m < ch m) with w | w | w
        · exact absurd ((e _ _ t1 t2 (by omega) (by omega) a1 a2).mp a3) (b4 _ a1 w)
        · exact w
        · exact absurd ((e _ _ t1 t2 (by omega) (by omega) b1 b2).mpr b3) (a4 _ b1 w)
  exact fun i a b => key n.toNat (by omega) i a (by omega)
theorem cpl_cg {n : Int} {op op' : Int → Int → Prop} (e : ∀ i j, 0 ≤ i → i < n → 0 ≤ j → j < n → (op i j ↔ op' i j)) : ∀ (m : Nat) (S : Int), (m : Int) ≤ n → (cpl n op m S ↔ cpl n op' m S)
  | 0, S, _ => Iff.rfl
  | m + 1, S, h => by
    unfold cpl
    constructor
    · rintro ⟨j, a, b, c, d, f⟩; exact ⟨j, a, b, c, (e _ j (by omega) (by omega) a b).mp d, (cpl_cg e m _ (by omega)).mp f⟩
    · rintro ⟨j, a, b, c, d, f⟩; exact ⟨j, a, b, c, (e _ j (by omega) (by omega) a b).mpr d, (cpl_cg e m _ (by omega)).mpr f⟩
theorem okJ_cg {n T j : Int} {op op' : Int → Int → Prop} (e : ∀ i j, 0 ≤ i → i < n → 0 ≤ j → j < n → (op i j ↔ op' i j)) (hT : 0 ≤ pc T ∧ pc T < n) (hj : 0 ≤ j ∧ j < n) : okJ n op T j ↔ okJ n op' T j := by
  unfold okJ
  rw [e _ j hT.1 hT.2 hj.1 hj.2, cpl_cg e _ _ (by omega)]
/-- first choices over the same joins are the same -/
theorem lex_un {n : Int} {op op' : Int → Int → Prop} {ch ch' : Int → Int} (hn : 0 ≤ n ∧ n ≤ 8) (e : ∀ i j, 0 ≤ i → i < n → 0 ≤ j → j < n → (op i j ↔ op' i j)) (h : fstC n (okJ n op) ch) (h' : fstC n (okJ n op') ch') : ∀ i, 0 ≤ i → i < n → ch i = ch' i :=
  fst_un hn (fun T j q => q.1) (fun T j a b c d x y => okJ_cg e ⟨c, d⟩ ⟨x, y⟩) h h'
theorem cpl_tail {n : Int} {op : Int → Int → Prop} {ch : Int → Int} (hn : 0 ≤ n) (h : ∀ i : Int, 0 ≤ i → i < n → 0 ≤ ch i ∧ ch i < n ∧ bt (cs ch i.toNat) (ch i) = false ∧ op i (ch i)) : ∀ m : Nat, (m : Int) ≤ n → cpl n op m (cs ch (n.toNat - m))
  | 0, _ => trivial
  | m + 1, hm => by
    have c := cpl_tail hn h m (by omega)
    obtain ⟨a1, a2, a3, a4⟩ := h (n - ((m + 1 : Nat) : Int)) (by omega) (by omega)
    refine ⟨ch (n - ((m + 1 : Nat) : Int)), a1, a2, ?_, a4, ?_⟩
    · rw [show (n - ((m + 1 : Nat) : Int)).toNat = n.toNat - (m + 1) by omega] at a3; exact a3
    · have e : n.toNat - m = (n.toNat - (m + 1)) + 1 := by omega
      rw [e, cs_n] at c
      rw [show ((n.toNat - (m + 1) : Nat) : Int) = n - ((m + 1 : Nat) : Int) by omega] at c
      exact c
theorem bit_sx : ∀ s : Fin 256, ∀ j : Fin 8, bt (s.val : Int) (j.val : Int) = false → ixor (sB (s.val : Int) (j.val : Int)) (ishl 1 (j.val : Int)) = (s.val : Int) := by decide +kernel
theorem bitSx {s j : Int} (h1 : 0 ≤ s ∧ s < 256) (h2 : 0 ≤ j ∧ j < 8) (h : bt s j = false) : ixor (sB s j) (ishl 1 j) = s := fin2 (P := fun s j => bt s j = false → ixor (sB s j) (ishl 1 j) = s) bit_sx h1.1 h1.2 h2.1 h2.2 h
theorem sm_pt {f g : Int → Int} {x d : Int} : ∀ {n : Nat}, 0 ≤ x → x < n → g x = f x + d → (∀ k : Int, 0 ≤ k → k < n → k ≠ x → g k = f k) → sm g n = sm f n + d
  | 0, a, b, _, _ => by omega
  | n + 1, a, b, c, e => by
    show sm g n + g n = sm f n + f n + d
    by_cases q : x = n
    · have : sm g n = sm f n := sm_cg (fun k y z => e k y (by omega) (by omega))
      rw [this, ← q, c]; omega
    · rw [sm_pt (f := f) (g := g) (x := x) (d := d) a (by omega) c (fun k y z w => e k y (by omega) w), e n (by omega) (by omega) (fun z => q z.symm)]
      omega
def nxG (σ : eS) (o u j : Int) : Prop := iand (ishr o j) 1 ≠ 0 ∧ σ 19 (ior u (ishl 1 j)) ≠ σ 16 3
theorem t_Ch_nextColumn {σ : eS} {o u f n : Int} (hu : 0 ≤ u ∧ u < 256) (hf : 0 ≤ f ∧ f ≤ n) (hn : 0 ≤ n ∧ n ≤ 8) : MtI shA M_Ch_nextColumn [vr 16, vi o, vi u, vi f, vi n] σ (fun σ' z => σ' = σ ∧ f ≤ z ∧ z ≤ n ∧ (∀ j, f ≤ j → j < z → ¬ nxG σ o u j) ∧ (z < n → nxG σ o u z)) := by
  refine Mt.of okM_Ch_nextColumn (Nat.le_of_ble_eq_true rfl) (fun hk hg => ?_)
  refine ok_iload_n 0 rfl rfl rfl (ok_ist5 1 rfl rfl rfl ?_)
  refine lpO (fun j : Int => [some (vr 16), some (vi o), some (vi u), some (vi f), some (vi n), some (vi j)]) (fun _ => σ) (fun j => f ≤ j ∧ j ≤ n ∧ ∀ i, f ≤ i → i < j → ¬ nxG σ o u i) (fun j => (8 - j).toNat) ?_ f ⟨by omega, by omega, fun i a b => by omega⟩
  rintro j ⟨j1, j2, j3⟩ ih
  refine ok_iload 2 rfl rfl rfl (ok_iload 3 rfl rfl rfl (ok_icmp_ge 4 46 rfl rfl rfl (fun h7 => ?_) (fun h7 => ?_)))
  · refine ok_iload 26 rfl rfl rfl (ok_iret 27 rfl rfl rfl ?_)
    exact ⟨_, rfl, rfl, by omega, by omega, fun i a b => j3 i a (by omega), fun q => by omega⟩
  · have b := or8 hu (j := j) ⟨by omega, by omega⟩
    refine ok_iload_n 5 rfl rfl rfl (ok_iload 6 rfl rfl rfl (ok_ishr 7 rfl rfl (ok_iconst 8 rfl rfl (by decide) (ok_iand 9 rfl rfl (ok_if_eq 10 40 rfl rfl rfl (fun h16 => ?_) (fun h16 => ?_))))))
    · refine ok_inc5 24 rfl rfl rfl (by first | omega | (simp [up_if]; omega) | (simp [up_if] at *; omega)) (ok_goto 25 3 rfl rfl rfl ?_)
      exact ih (j + 1) ⟨by omega, by omega, lt_ext j3 (fun q => q.1 h16)⟩ (by omega)
    · refine ok_aload_n 11 rfl rfl rfl (ok_getR 12 rfl rfl fl_X0_19 rfl rfl (ok_iload_n 13 rfl rfl rfl (ok_iconst 14 rfl rfl (by decide) (ok_iload 15 rfl rfl rfl (ok_ishl 16 rfl rfl (ok_ior 17 rfl rfl (ok_iald 18 rfl rfl rfl (by first | omega | (simp [up_if]; omega) | (simp [up_if] at *; omega)) (ok_aload_n 19 rfl rfl rfl (ok_getI 20 rfl rfl fl_X0_22 rfl rfl (Or.inl rfl) (ok_icmp_eq 21 40 rfl rfl rfl (fun h34 => ?_) (fun h34 => ?_)))))))))))
      · refine ok_inc5 24 rfl rfl rfl (by first | omega | (simp [up_if]; omega) | (simp [up_if] at *; omega)) (ok_goto 25 3 rfl rfl rfl ?_)
        exact ih (j + 1) ⟨by omega, by omega, lt_ext j3 (fun q => q.2 h34)⟩ (by omega)
      · refine ok_iload 22 rfl rfl rfl (ok_iret 23 rfl rfl rfl ?_)
        exact ⟨_, rfl, rfl, j1, by omega, j3, fun _ => ⟨h16, h34⟩⟩
abbrev rgFf : Nat → Int → Prop := fun c k => (c = 16 ∧ k = 3) ∨ c = 17 ∨ c = 19
def FF (σ : eS) (n : Int) (op : Int → Int → Prop) (σ' : eS) (z : Int) : Prop := fr rgFf σ σ' ∧ iCh σ' ∧ σ' 16 3 = σ 16 3 + 1 ∧ iSe σ' ∧ ((z = 0 ∧ ¬ cpl n op n.toNat 0) ∨ (z = 1 ∧ cpl n op n.toNat 0 ∧ fstC n (okJ n op) (fun i => σ' 17 i)))
def dd (ρ : eS) (q : Int) : Int → Int := fun T => if ρ 19 T = q then 1 else 0
theorem dd_bd (ρ : eS) (q : Int) : 0 ≤ sm (dd ρ q) 256 ∧ sm (dd ρ q) 256 ≤ 256 := by
  have := sm_bd (f := dd ρ q) (B := 1) (by decide) (n := 256) (fun k a b => by unfold dd; split <;> omega)
  omega
/-- behind the whole search: the prefix of rows that have columns -/
def pre (n : Int) (op : Int → Int → Prop) (ch : Int → Int) (r : Int) : Prop := ∀ i : Int, 0 ≤ i → i < r → 0 ≤ ch i ∧ ch i < n ∧ bt (cs ch i.toNat) (ch i) = false ∧ op i (ch i) ∧ ∀ j, 0 ≤ j → j < ch i → ¬ okJ n op (cs ch i.toNat) j
theorem pre_fst {n : Int} {op : Int → Int → Prop} {ch : Int → Int} (hn : 0 ≤ n ∧ n ≤ 8) (h : pre n op ch n) : cpl n op n.toNat 0 ∧ fstC n (okJ n op) ch := by
  have tl := cpl_tail (op := op) (ch := ch) hn.1 (fun i a b => by have := h i a b; exact ⟨this.1, this.2.1, this.2.2.1, this.2.2.2.1⟩)
  refine ⟨?_, fun i a b => ?_⟩
  · have := tl n.toNat (by omega)
    rw [Nat.sub_self] at this
    exact this
  · obtain ⟨x1, x2, x3, x4, x5⟩ := h i a b
    have ci := (cs_in (ch := ch) hn i.toNat (by omega) (fun k y z => by have := h k y (by omega); exact ⟨this.1, this.2.1, this.2.2.1⟩)).2.2
    refine ⟨x1, x2, ⟨x3, by rw [ci, show ((i.toNat : Nat) : Int) = i by omega]; exact x4, ?_⟩, x5⟩
    have := tl (n - i - 1).toNat (by omega)
    rw [show n.toNat - (n - i - 1).toNat = i.toNat + 1 by omega, cs_n, show ((i.toNat : Nat) : Int) = i by omega] at this
    rw [ci, show ((i.toNat : Nat) : Int) = i by omega]
    exact this
theorem pre_cg {n r : Int} {op : Int → Int → Prop} {ch ch' : Int → Int} (h : pre n op ch r) (e : ∀ k, 0 ≤ k → k < r → ch' k = ch k) : pre n op ch' r := fun i a b => by
  have ec : cs ch' i.toNat = cs ch i.toNat := cs_cg (fun k x y => e k x (by omega))
  rw [ec, e i a b]
  exact h i a b
theorem t_Ch_findFirst {σ : eS} {J n : Int} {op : Int → Int → Prop} (hC : iCh σ) (hn : 0 ≤ n ∧ n ≤ 8) (hJ : jOf J n op) (hS : iSe σ) (hS2 : σ 16 3 < 2147483647) : MtI shA M_Ch_findFirst [vr 16, vl J, vi n] σ (FF σ n op) := by
  refine Mt.of okM_Ch_findFirst (Nat.le_of_ble_eq_true rfl) (fun hk hg => ?_)
  have b2 := bit2 hn
  obtain ⟨q, eq⟩ : ∃ q, q = σ 16 3 + 1 := ⟨_, rfl⟩
  refine ok_aload_n 0 rfl rfl rfl (ok_dup 1 rfl rfl rfl (ok_getI 2 rfl rfl fl_X0_22 rfl rfl (Or.inl rfl) (ok_iconst 3 rfl rfl (by decide) (ok_iadd 4 rfl rfl (by have := hS.1; omega) (ok_putI 5 rfl rfl fl_X0_22 rfl rfl rfl rfl (ok_iconst 6 rfl rfl (by decide) (ok_ist4 7 rfl rfl rfl (ok_iconst 8 rfl rfl (by decide) (ok_ist5 9 rfl rfl rfl (ok_iconst 10 rfl rfl (by decide) (ok_ist6 11 rfl rfl rfl (ok_iconst 12 rfl rfl (by decide) (ok_ist7 13 rfl rfl rfl ?_)))))))))))))
  obtain ⟨σ1, e1⟩ : ∃ x, x = up σ 16 3 (σ 16 3 + 1) := ⟨_, rfl⟩
  rw [← e1]
  have h3 : σ1 16 3 = q := by rw [e1, up_same, eq]
  have h17 : ∀ k, σ1 17 k = σ 17 k := fun k => by rw [e1, up_ne _ _ _ _ (by decide)]
  have h19 : ∀ k, σ1 19 k = σ 19 k := fun k => by rw [e1, up_ne _ _ _ _ (by decide)]
  have f0 : fr rgFf σ σ1 := by rw [e1]; exact fr_up fr.rf (by simp [rgFf])
  have d0 : sm (dd σ1 q) 256 = 0 := by
    have : sm (dd σ1 q) 256 = sm (fun _ => 0) 256 := sm_cg (fun k a b => by unfold dd; rw [if_neg (by rw [h19]; have := hS.2 k a (by omega); omega)])
    rw [this]
    have z : ∀ m : Nat, sm (fun _ => (0 : Int)) m = 0 := by
      intro m
      induction m with
      | zero => rfl
      | succ m ih => show sm (fun _ => (0 : Int)) m + 0 = 0; rw [ih]; rfl
    exact z 256
  clear e1
  refine lpO5 (fun (u r w k : Int) (_ : eS) => [some (vr 16), some (vl J), none, some (vi n), some (vi u), some (vi r), some (vi w), some (vi k), none]) (fun _ _ _ _ ρ => ρ) (fun u r w k ρ => 0 ≤ r ∧ r ≤ n ∧ 0 ≤ w ∧ w ≤ n ∧ 0 ≤ k ∧ k ≤ 520 ∧ fr rgFf σ ρ ∧ iCh ρ ∧ ρ 16 3 = q ∧ (∀ T, 0 ≤ T → T < 256 → ρ 19 T ≤ q) ∧ u = cs (fun i => ρ 17 i) r.toNat ∧ pre n op (fun i => ρ 17 i) r ∧ (∀ j, 0 ≤ j → j < w → ¬ okJ n op u j) ∧ (∀ T, 0 ≤ T → T < p2 n → ρ 19 T = q → ¬ cpl n op (n - pc T).toNat T) ∧ (∀ i, 0 ≤ i → i ≤ r → ρ 19 (cs (fun i => ρ 17 i) i.toNat) ≠ q) ∧ k = 2 * sm (dd ρ q) 256 + r) (fun _ _ _ k _ => (520 - k).toNat) ?_ 0 0 0 0 σ1 ⟨by omega, by omega, by omega, by omega, by omega, by omega, f0, iCh_cg hC h17, h3, fun T a b => by rw [h19]; have := hS.2 T a b; omega, rfl, fun i a b => by omega, fun j a b => by omega, fun T a b c => by rw [h19] at c; have := hS.2 T a (by omega); omega, fun i a b => by rw [show i = 0 by omega]; show σ1 19 0 ≠ q; rw [h19]; have := hS.2 0 (by omega) (by omega); omega, by omega⟩
  clear h3 h17 h19 f0 d0 σ1
  rintro u r w k ρ ⟨r1, r2, w1, w2, k1, k2, f, hC1, h3, hq, eu, hP, hw, hdead, hlive, hk⟩ ih
  have db := dd_bd ρ q
  obtain ⟨c1, c2, c3⟩ := cs_in (ch := fun i => ρ 17 i) hn r.toNat (by omega) (fun i a b => by have := hP i a (by omega); exact ⟨this.1, this.2.1, this.2.2.1⟩)
  rw [← eu] at c1 c2 c3
  have pu : pc u = r := by omega
  have u256 : 0 ≤ u ∧ u < 256 := ⟨c1, by omega⟩
  refine ok_iload 14 rfl rfl rfl (ok_sipush 15 rfl rfl (by decide) (by decide) (ok_icmp_ge 16 143 rfl rfl rfl (fun h27 => ?_) (fun h27 => ?_)))
  · have rn : r = n := by omega
    rw [rn] at hP
    refine ok_iload 80 rfl rfl rfl (ok_iload_n 81 rfl rfl rfl (ok_icmp_ne 82 153 rfl rfl rfl (fun h146 => ?_) (fun h146 => ?_)))
    · exact absurd rn h146
    · refine ok_iconst 83 rfl rfl (by decide) (ok_goto 84 154 rfl rfl rfl (ok_zret 86 rfl rfl rfl (by first | omega | (simp [up_if]; omega) | (simp [up_if] at *; omega)) ?_))
      exact ⟨_, rfl, f, hC1, by omega, ⟨by rw [h3]; have := hS.1; omega, fun T a b => by rw [h3]; exact hq T a b⟩, Or.inr ⟨rfl, pre_fst hn hP⟩⟩
  · refine ok_iload 17 rfl rfl rfl (ok_iload_n 18 rfl rfl rfl (ok_icmp_ge 19 143 rfl rfl rfl (fun h33 => ?_) (fun h33 => ?_)))
    · have rn : r = n := by omega
      rw [rn] at hP
      refine ok_iload 80 rfl rfl rfl (ok_iload_n 81 rfl rfl rfl (ok_icmp_ne 82 153 rfl rfl rfl (fun h146 => ?_) (fun h146 => ?_)))
      · exact absurd rn h146
      · refine ok_iconst 83 rfl rfl (by decide) (ok_goto 84 154 rfl rfl rfl (ok_zret 86 rfl rfl rfl (by first | omega | (simp [up_if]; omega) | (simp [up_if] at *; omega)) ?_))
        exact ⟨_, rfl, f, hC1, by omega, ⟨by rw [h3]; have := hS.1; omega, fun T a b => by rw [h3]; exact hq T a b⟩, Or.inr ⟨rfl, pre_fst hn hP⟩⟩
    · refine ok_aload_n 20 rfl rfl rfl (ok_lload_n 21 rfl rfl rfl (ok_iload 22 rfl rfl rfl (ok_callSI (M' := M_Jo_rowOf) (as := [_, _]) 23 rfl rfl ml_X0_26 (s_Jo_rowOf) ⟨Nat.le_of_ble_eq_true rfl, Nat.le_of_ble_eq_true rfl⟩ rfl (Nat.le_of_ble_eq_true rfl) (fun σ' z hz => ?_))))
      rw [hz.1, hz.2]
      clear hz z σ'
      refine ok_iload 24 rfl rfl rfl (ok_iconst 25 rfl rfl (by decide) (ok_ixor 26 rfl rfl (ok_iand 27 rfl rfl (ok_iload 28 rfl rfl rfl (ok_iload 29 rfl rfl rfl (ok_iload_n 30 rfl rfl rfl ?_))))))
      have ow : iand (rowJ J r) (ixor u (-1)) = iand (rowJ J (pc u)) (ixor u (-1)) := by rw [pu]
      have hop : ∀ j, 0 ≤ j → j < n → (nxG ρ (iand (rowJ J r) (ixor u (-1))) u j ↔ (bt u j = false ∧ op r j ∧ ρ 19 (sB u j) ≠ q)) := fun j a b => by
        unfold nxG
        rw [ow, (open_sp hn hJ u256 ⟨by omega, by omega⟩ ⟨a, b⟩).1, bitP u256 ⟨a, by omega⟩, h3, pu]
        exact and_assoc
      have hno : ∀ j, 0 ≤ j → j < n → ¬ nxG ρ (iand (rowJ J r) (ixor u (-1))) u j → ¬ okJ n op u j := fun j a b c d => by
        rw [hop j a b] at c
        obtain ⟨d1, d2, d3⟩ := d
        rw [pu] at d2 d3
        refine c ⟨d1, d2, fun e => ?_⟩
        have sl := sB_lt (s := u) (j := j) (n := n) ⟨c1, c2⟩ ⟨a, b⟩
        have sp := (bitC u256 (j := j) ⟨a, by omega⟩ d1).1
        refine hdead _ sl.1 sl.2 e ?_
        rw [sp, pu, show n - (r + 1) = n - r - 1 by omega]
        exact d3
      refine ok_callVI (M' := M_Ch_nextColumn) (as := [_, _, _, _]) 31 rfl rfl ml_X0_32 (t_Ch_nextColumn u256 ⟨w1, w2⟩ hn) rfl rfl (Nat.le_of_ble_eq_true rfl) ⟨Nat.le_of_ble_eq_true rfl, Nat.le_of_ble_eq_true rfl⟩ rfl (Nat.le_of_ble_eq_true rfl) (fun σ' z hz => ?_)
      obtain ⟨hs_, hz⟩ := hz
      rw [hs_]; clear hs_ σ'
      obtain ⟨z1, z2, z3, z4⟩ := hz
      have hbelow : ∀ j, 0 ≤ j → j < z → ¬ okJ n op u j := fun j a b => by
        by_cases x : j < w
        · exact hw j a x
        · exact hno j a (by omega) (z3 j (by omega) b)
      refine ok_ist8 32 rfl rfl rfl (ok_iload 33 rfl rfl rfl (ok_iload_n 34 rfl rfl rfl (ok_icmp_ge 35 91 rfl rfl rfl (fun h61 => ?_) (fun h61 => ?_))))
      · have zn : z = n := by omega
        have hcpl : ¬ cpl n op (n - pc u).toNat u := fun x => by
          obtain ⟨j, a, b, c⟩ := (cpl_iff (by omega) (by omega)).mp x
          exact hbelow j a (by omega) c
        refine ok_iload 51 rfl rfl rfl (ok_if_ne 52 98 rfl rfl rfl (fun h93 => ?_) (fun h93 => ?_))
        · have c := hC1 (r + -1) (by omega) (by omega)
          have e : ∀ x, up ρ 19 u x 17 (r + -1) = ρ 17 (r + -1) := fun x => up_ne _ _ _ _ (by decide)
          obtain ⟨y1, y2, y3, y4, y5⟩ := hP (r + -1) (by omega) (by omega)
          have y1 : 0 ≤ ρ 17 (r + -1) := y1
          have y2 : ρ 17 (r + -1) < n := y2
          have eu2 : u = sB (cs (fun i => ρ 17 i) (r + -1).toNat) (ρ 17 (r + -1)) := by
            have := cs_s (fun i => ρ 17 i) (i := r + -1) (by omega)
            rw [show r + -1 + 1 = r by omega, ← eu] at this
            exact this
          obtain ⟨v1, v2, v3⟩ := cs_in (ch := fun i => ρ 17 i) hn (r + -1).toNat (by omega) (fun i a b => by have := hP i a (by omega); exact ⟨this.1, this.2.1, this.2.2.1⟩)
          have ex := bitSx (s := cs (fun i => ρ 17 i) (r + -1).toNat) (j := ρ 17 (r + -1)) ⟨v1, by omega⟩ ⟨by omega, by omega⟩ y3
          rw [← eu2] at ex
          refine ok_aload_n 55 rfl rfl rfl (ok_getR 56 rfl rfl fl_X0_19 rfl rfl (ok_iload 57 rfl rfl rfl (ok_aload_n 58 rfl rfl rfl (ok_getI 59 rfl rfl fl_X0_22 rfl rfl (Or.inl rfl) (ok_iast 60 rfl rfl rfl (by omega) (ok_inc5 61 rfl rfl rfl (by first | omega | (simp [up_if]; omega) | (simp [up_if] at *; omega)) (ok_iload 62 rfl rfl rfl (ok_iconst 63 rfl rfl (by decide) (ok_aload_n 64 rfl rfl rfl (ok_getR 65 rfl rfl fl_X0_9 rfl rfl (ok_iload 66 rfl rfl rfl (ok_iald 67 rfl rfl rfl (by first | omega | (simp [up_if]; omega) | (simp [up_if] at *; omega)) (ok_ishl 68 rfl rfl (ok_ixor 69 rfl rfl (ok_ist4 70 rfl rfl rfl (ok_aload_n 71 rfl rfl rfl (ok_getR 72 rfl rfl fl_X0_9 rfl rfl (ok_iload 73 rfl rfl rfl (ok_iald 74 rfl rfl rfl (by first | omega | (simp [up_if]; omega) | (simp [up_if] at *; omega)) (ok_iconst 75 rfl rfl (by decide) (ok_iadd 76 rfl rfl (by first | omega | (simp [up_if]; omega) | (simp [up_if] at *; omega)) (ok_ist6 77 rfl rfl rfl (ok_inc7 78 rfl rfl rfl (by first | omega | (simp [up_if]; omega) | (simp [up_if] at *; omega)) (ok_goto 79 22 rfl rfl rfl ?_))))))))))))))))))))))))
          rw [e, ex, h3]
          have ed : sm (dd (up ρ 19 u q) q) 256 = sm (dd ρ q) 256 + 1 := by
            refine sm_pt (x := u) u256.1 (by omega) ?_ (fun T a b x => ?_)
            · have := hlive r r1 (by omega)
              rw [← eu] at this
              unfold dd; rw [if_pos (up_same _ _ _ _), if_neg this]; rfl
            · unfold dd; rw [up_nk _ _ _ _ x]
          have ecs : ∀ i : Nat, cs (fun i => up ρ 19 u q 17 i) i = cs (fun i => ρ 17 i) i := fun i => cs_cg (fun k a b => up_ne _ _ _ _ (by decide))
          refine ok_fg [some (vr 16), some (vl J), none, some (vi n), some (vi _), some (vi (r + -1)), some (vi _), some (vi (k + 1)), none] ⟨rfl, rfl, rfl, rfl, rfl, rfl, rfl, trivial⟩ (ih _ (r + -1) _ (k + 1) _ ⟨by omega, by omega, by omega, by omega, by omega, by omega, fr_up f (by simp [rgFf]), iCh_cg hC1 (fun k => up_ne _ _ _ _ (by decide)), by rw [up_ne _ _ _ _ (by decide)]; exact h3, fun T a b => ?_, by rw [ecs], pre_cg (fun i a b => hP i a (by omega)) (fun k a b => up_ne _ _ _ _ (by decide)), fun j a b => ?_, fun T a b x => ?_, fun i a b => ?_, by rw [ed]; omega⟩ (by omega))
          · rw [up_if]; split
            · exact Int.le_refl _
            · exact hq T a b
          · rcases (by omega : j < ρ 17 (r + -1) ∨ j = ρ 17 (r + -1)) with x | x
            · exact y5 j a x
            · rw [x]
              rintro ⟨x1, x2, x3⟩
              rw [← eu2] at x3
              refine hcpl ?_
              rw [pu, show n - r = n - pc (cs (fun i => ρ 17 i) (r + -1).toNat) - 1 by omega]
              exact x3
          · by_cases y : T = u
            · rw [y]; exact hcpl
            · rw [up_nk _ _ _ _ y] at x; exact hdead T a b x
          · rw [ecs]
            have pi := (cs_in (ch := fun i => ρ 17 i) hn i.toNat (by omega) (fun i a b => by have := hP i a (by omega); exact ⟨this.1, this.2.1, this.2.2.1⟩)).2.2
            rw [up_nk _ _ _ _ (fun y => by rw [y] at pi; omega)]
            exact hlive i a (by omega)
        · refine ok_iconst 53 rfl rfl (by decide) (ok_zret 54 rfl rfl rfl (by first | omega | (simp [up_if]; omega) | (simp [up_if] at *; omega)) ?_)
          refine ⟨_, rfl, f, hC1, by omega, ⟨by rw [h3]; have := hS.1; omega, fun T a b => by rw [h3]; exact hq T a b⟩, Or.inl ⟨rfl, ?_⟩⟩
          have u0 : u = 0 := by rw [eu, show r = 0 by omega]; rfl
          rw [pu, show r = 0 by omega, Int.sub_zero, u0] at hcpl
          exact hcpl
      · have zl : z < n := by omega
        obtain ⟨g1, g2, g3⟩ := (hop z (by omega) zl).mp (z4 zl)
        have sl := sB_lt (s := u) (j := z) (n := n) ⟨c1, c2⟩ ⟨by omega, zl⟩
        refine ok_aload_n 36 rfl rfl rfl (ok_getR 37 rfl rfl fl_X0_9 rfl rfl (ok_iload 38 rfl rfl rfl (ok_iload 39 rfl rfl rfl (ok_iast 40 rfl rfl rfl (by first | omega | (simp [up_if]; omega) | (simp [up_if] at *; omega)) (ok_iload 41 rfl rfl rfl (ok_iconst 42 rfl rfl (by decide) (ok_iload 43 rfl rfl rfl (ok_ishl 44 rfl rfl (ok_ior 45 rfl rfl ?_)))))))))
        rw [bitP u256 (j := z) ⟨by omega, by omega⟩]
        refine ok_ist4 46 rfl rfl rfl (ok_iconst 47 rfl rfl (by decide) (ok_ist6 48 rfl rfl rfl (ok_inc5 49 rfl rfl rfl (by first | omega | (simp [up_if]; omega) | (simp [up_if] at *; omega)) (ok_goto 50 137 rfl rfl rfl (ok_inc7 78 rfl rfl rfl (by first | omega | (simp [up_if]; omega) | (simp [up_if] at *; omega)) (ok_goto 79 22 rfl rfl rfl ?_))))))
        have ecs : ∀ i : Int, 0 ≤ i → i ≤ r → cs (fun i => up ρ 17 r z 17 i) i.toNat = cs (fun i => ρ 17 i) i.toNat := fun i a b => cs_cg (fun k x y => by rw [up_nk _ _ _ _ (by omega)])
        have ec1 : cs (fun i => up ρ 17 r z 17 i) (r + 1).toNat = sB u z := by
          rw [cs_s _ r1, ecs r r1 (Int.le_refl _), ← eu, up_same]
        have ed : sm (dd (up ρ 17 r z) q) 256 = sm (dd ρ q) 256 := sm_cg (fun T a b => by unfold dd; rw [up_ne _ _ _ _ (by decide)])
        refine ok_fg [some (vr 16), some (vl J), none, some (vi n), some (vi _), some (vi (r + 1)), some (vi _), some (vi (k + 1)), none] ⟨rfl, rfl, rfl, rfl, rfl, rfl, rfl, trivial⟩ (ih _ (r + 1) _ (k + 1) _ ⟨by omega, by omega, by omega, by omega, by omega, by omega, fr_up f (by simp [rgFf]), up_ch hC1 ⟨by omega, by omega⟩, by rw [up_ne _ _ _ _ (by decide)]; exact h3, fun T a b => by rw [up_ne _ _ _ _ (by decide)]; exact hq T a b, ec1.symm, fun i a b => ?_, fun j a b => by omega, fun T a b x => by rw [up_ne _ _ _ _ (by decide)] at x; exact hdead T a b x, fun i a b => ?_, by rw [ed]; omega⟩ (by omega))
        · rw [ecs i a (by omega)]
          dsimp only
          rcases (by omega : i < r ∨ i = r) with x | x
          · rw [up_nk _ _ _ _ (by omega)]; exact hP i a x
          · rw [x, up_same, ← eu]
            exact ⟨by omega, zl, g1, g2, hbelow⟩
        · rw [up_ne _ _ _ _ (by decide)]
          rcases (by omega : i ≤ r ∨ i = r + 1) with x | x
          · rw [ecs i a x]; exact hlive i a x
          · rw [x, ec1]; exact g3
end
section
/-! THE RICHEST CHOICE, the first of several -/
def rcG (op : Int → Int → Prop) (w : Int → Int → Int) (v : Int → Int) (T j : Int) : Prop := okO op v T j ∧ w (pc T) j + v (sB T j) = v T
theorem rc_un {n : Int} {op op' : Int → Int → Prop} {w w' : Int → Int → Int} {v v' : Int → Int} {ch ch' : Int → Int} (hn : 0 ≤ n ∧ n ≤ 8) (he : ∀ i j, 0 ≤ i → i < n → 0 ≤ j → j < n → (op i j ↔ op' i j)) (hw : ∀ i j, 0 ≤ i → i < n → 0 ≤ j → j < n → w i j = w' i j) (hv : ∀ T, 0 ≤ T → T < p2 n → v T = v' T) (h : fstC n (rcG op w v) ch) (h' : fstC n (rcG op' w' v') ch') : ∀ i, 0 ≤ i → i < n → ch i = ch' i :=
  fst_un hn (fun T j q => q.1.1) (fun T j a b c d x y => by
    have s := sB_lt (s := T) (j := j) (n := n) ⟨a, b⟩ ⟨x, y⟩
    unfold rcG okO
    rw [he _ j c d x y, hw _ j c d x y, hv _ s.1 s.2, hv T a b]) h h'
/-- a set whose number isn't below 0 and that isn't whole goes on -/
theorem rc_ex {n : Int} {op : Int → Int → Prop} {w : Int → Int → Int} {v : Int → Int} {T : Int} (h : dpO n 1 op w v T) (h0 : 0 ≤ v T) : ∃ j, 0 ≤ j ∧ j < n ∧ rcG op w v T j := by
  rcases h.2 with q | ⟨j, a, b, c, d⟩
  · omega
  · refine ⟨j, a, b, c, ?_⟩
    unfold cmbG at d
    rw [if_neg (by decide)] at d
    exact d.symm
theorem t_Ch_richestColumn {σ : eS} {c : Nat} {J u n : Int} {op : Int → Int → Prop} (hs : nth shA c = some (1, 64, [])) (hn : 0 ≤ n ∧ n ≤ 8) (hJ : jOf J n op) (hu : 0 ≤ u ∧ u < p2 n) (hp : 0 ≤ pc u ∧ pc u < n) (hc : ∀ k : Int, 0 ≤ k → k < 64 → 0 ≤ σ c k ∧ σ c k ≤ 799999992) (hv : ∀ T, 0 ≤ T → T < p2 n → -1 ≤ σ 18 T ∧ σ 18 T ≤ 6399999936) (hex : ∃ j, 0 ≤ j ∧ j < n ∧ rcG op (fun i j => σ c (i * 8 + j)) (fun k => σ 18 k) u j) : MtI shA M_Ch_richestColumn [vr 16, vr c, vi (pc u), vi (iand (rowJ J (pc u)) (ixor u (-1))), vi u, vi n] σ (fun σ' z => σ' = σ ∧ 0 ≤ z ∧ z < n ∧ rcG op (fun i j => σ c (i * 8 + j)) (fun k => σ 18 k) u z ∧ ∀ j, 0 ≤ j → j < z → ¬ rcG op (fun i j => σ c (i * 8 + j)) (fun k => σ 18 k) u j) := by
  refine Mt.of okM_Ch_richestColumn (Nat.le_of_ble_eq_true rfl) (fun hk hg => ?_)
  have b2 := bit2 hn
  have u256 : 0 ≤ u ∧ u < 256 := ⟨hu.1, by omega⟩
  obtain ⟨o, eo⟩ : ∃ o, o = iand (rowJ J (pc u)) (ixor u (-1)) := ⟨_, rfl⟩
  rw [← eo]
  obtain ⟨G, eG⟩ : ∃ G, G = rcG op (fun i j => σ c (i * 8 + j)) (fun k => σ 18 k) u := ⟨_, rfl⟩
  rw [← eG] at hex ⊢
  have hG : ∀ j, G j ↔ ((bt u j = false ∧ op (pc u) j ∧ 0 ≤ σ 18 (sB u j)) ∧ σ c (pc u * 8 + j) + σ 18 (sB u j) = σ 18 u) := fun j => by rw [eG]; exact Iff.rfl
  clear eG
  refine ok_iconst 0 rfl rfl (by decide) (ok_ist6 1 rfl rfl rfl ?_)
  refine lpO (fun j : Int => [some (vr 16), some (vr c), some (vi (pc u)), some (vi o), some (vi u), some (vi n), some (vi j), none, none]) (fun _ => σ) (fun j => 0 ≤ j ∧ j ≤ n ∧ ∀ i, 0 ≤ i → i < j → ¬ G i) (fun j => (8 - j).toNat) ?_ 0 ⟨by omega, by omega, fun i a b => by omega⟩
  rintro j ⟨j1, j2, j3⟩ ih
  refine ok_iload 2 rfl rfl rfl (ok_iload 3 rfl rfl rfl (ok_icmp_ge 4 75 rfl rfl rfl (fun h7 => ?_) (fun h7 => ?_)))
  · refine ok_iconst 44 rfl rfl (by decide) (ok_iret 45 rfl rfl rfl ?_)
    obtain ⟨i, i0, i1, i2⟩ := hex
    exact absurd i2 (j3 i i0 (by omega))
  · have hop := open_sp hn hJ (T := u) u256 hp (j := j) ⟨j1, by omega⟩
    rw [← eo] at hop
    have e2 := bitP (s := u) (j := j) u256 ⟨j1, by omega⟩
    have sl := sB_lt (s := u) (j := j) (n := n) hu ⟨j1, by omega⟩
    have vb := hv _ sl.1 sl.2
    have cb := hc (pc u * 8 + j) (by omega) (by omega)
    refine ok_iload_n 5 rfl rfl rfl (ok_iload 6 rfl rfl rfl (ok_ishr 7 rfl rfl (ok_iconst 8 rfl rfl (by decide) (ok_iand 9 rfl rfl (ok_if_eq 10 69 rfl rfl rfl (fun h16 => ?_) (fun h16 => ?_))))))
    · refine ok_inc6 42 rfl rfl rfl (by first | omega | (simp [up_if]; omega) | (simp [up_if] at *; omega)) (ok_goto 43 3 rfl rfl rfl ?_)
      exact ok_fg [some (vr 16), some (vr c), some (vi (pc u)), some (vi o), some (vi u), some (vi n), some (vi (j + 1)), none, none] ⟨rfl, rfl, rfl, rfl, rfl, rfl, rfl, trivial⟩ (ih (j + 1) ⟨by omega, by omega, lt_ext j3 (fun q => by have q1 := ((hG j).mp q).1; exact hop.2.mp h16 ⟨q1.1, q1.2.1⟩)⟩ (by omega))
    · refine ok_aload_n 11 rfl rfl rfl (ok_getR 12 rfl rfl fl_X0_15 rfl rfl (ok_iload 13 rfl rfl rfl (ok_iconst 14 rfl rfl (by decide) (ok_iload 15 rfl rfl rfl (ok_ishl 16 rfl rfl (ok_ior 17 rfl rfl ?_))))))
      rw [e2]
      refine ok_lald 18 rfl rfl rfl (by omega) (ok_lst7 19 rfl rfl rfl (ok_lload 20 rfl rfl rfl (ok_ldc2 21 (-1) rfl rfl kc_X0_44 (by decide) (ok_lcmp_eq 22 23 69 rfl rfl rfl rfl rfl (fun h38 => ?_) (fun h38 => ?_)))))
      · refine ok_inc6 42 rfl rfl rfl (by first | omega | (simp [up_if]; omega) | (simp [up_if] at *; omega)) (ok_goto 43 3 rfl rfl rfl ?_)
        exact ok_fg [some (vr 16), some (vr c), some (vi (pc u)), some (vi o), some (vi u), some (vi n), some (vi (j + 1)), none, none] ⟨rfl, rfl, rfl, rfl, rfl, rfl, rfl, trivial⟩ (ih (j + 1) ⟨by omega, by omega, lt_ext j3 (fun q => by have q1 := ((hG j).mp q).1.2.2; omega)⟩ (by omega))
      · refine ok_aload_n 24 rfl rfl rfl (ok_iload_n 25 rfl rfl rfl (ok_bipush 26 rfl rfl (by decide) (by decide) (ok_imul 27 rfl rfl (by first | omega | (simp [up_if]; omega) | (simp [up_if] at *; omega)) (ok_iload 28 rfl rfl rfl (ok_iadd 29 rfl rfl (by first | omega | (simp [up_if]; omega) | (simp [up_if] at *; omega)) (ok_iald 30 rfl rfl hs (by first | omega | (simp [up_if]; omega) | (simp [up_if] at *; omega)) (ok_i2l 31 rfl rfl (ok_lload 32 rfl rfl rfl (ok_ladd 33 rfl rfl (by first | omega | (simp [up_if]; omega) | (simp [up_if] at *; omega)) (ok_aload_n 34 rfl rfl rfl (ok_getR 35 rfl rfl fl_X0_15 rfl rfl (ok_iload 36 rfl rfl rfl (ok_lald 37 rfl rfl rfl (by first | omega | (simp [up_if]; omega) | (simp [up_if] at *; omega)) (ok_lcmp_ne 38 39 69 rfl rfl rfl rfl rfl (fun h62 => ?_) (fun h62 => ?_)))))))))))))))
        · refine ok_inc6 42 rfl rfl rfl (by first | omega | (simp [up_if]; omega) | (simp [up_if] at *; omega)) (ok_goto 43 3 rfl rfl rfl ?_)
          exact ok_fg [some (vr 16), some (vr c), some (vi (pc u)), some (vi o), some (vi u), some (vi n), some (vi (j + 1)), none, none] ⟨rfl, rfl, rfl, rfl, rfl, rfl, rfl, trivial⟩ (ih (j + 1) ⟨by omega, by omega, lt_ext j3 (fun q => by have q1 := ((hG j).mp q).2; omega)⟩ (by omega))
        · refine ok_iload 40 rfl rfl rfl (ok_iret 41 rfl rfl rfl ?_)
          obtain ⟨ob, oo⟩ := hop.1.mp h16
          exact ⟨_, rfl, rfl, j1, by omega, (hG j).mpr ⟨⟨ob, oo, by omega⟩, by omega⟩, j3⟩
abbrev rgFr : Nat → Int → Prop := fun c _ => c = 17 ∨ c = 18
def FR (σ : eS) (c : Nat) (n : Int) (op : Int → Int → Prop) (σ' : eS) (z : Int) : Prop := fr rgFr σ σ' ∧ iCh σ' ∧ z = σ' 18 0 ∧ σ' 18 (p2 n - 1) = 0 ∧ (∀ T, 0 ≤ T → T < p2 n - 1 → dpO n 1 op (fun i j => σ c (i * 8 + j)) (fun k => σ' 18 k) T ∧ -1 ≤ σ' 18 T ∧ σ' 18 T ≤ 799999992 * 8) ∧ (z ≠ -1 → fstC n (rcG op (fun i j => σ c (i * 8 + j)) (fun k => σ' 18 k)) (fun i => σ' 17 i))
theorem t_Ch_findRichest {σ : eS} {c : Nat} {J n : Int} {op : Int → Int → Prop} (hs : nth shA c = some (1, 64, [])) (hC : iCh σ) (hn : 0 ≤ n ∧ n ≤ 8) (hJ : jOf J n op) (hc18 : c ≠ 18) (hc17 : c ≠ 17) (hc : ∀ k : Int, 0 ≤ k → k < 64 → 0 ≤ σ c k ∧ σ c k ≤ 799999992) : MtL shA M_Ch_findRichest [vr 16, vr c, vl J, vi n] σ (FR σ c n op) := by
  refine Mt.of okM_Ch_findRichest (Nat.le_of_ble_eq_true rfl) (fun hk hg => ?_)
  have b2 := bit2 hn
  refine ok_aload_n 0 rfl rfl rfl (ok_aload_n 1 rfl rfl rfl (ok_lload_n 2 rfl rfl rfl (ok_iload 3 rfl rfl rfl (ok_callVV (M' := M_Ch_sumUp) (as := [_, _, _]) 4 rfl rfl ml_X0_55 (t_Ch_sumUp hs hn hJ hc18 hc) rfl rfl (Nat.le_of_ble_eq_true rfl) ⟨Nat.le_of_ble_eq_true rfl, Nat.le_of_ble_eq_true rfl⟩ rfl (Nat.le_of_ble_eq_true rfl) (fun τ hq => ?_)))))
  obtain ⟨f, hm, hT⟩ := hq
  have f0 : fr rgFr σ τ := f.mono (fun c k q => by simp only [rgFr]; omega)
  have hC0 : iCh τ := iCh_cg hC (fun k => f _ _ (by simp))
  refine ok_aload_n 5 rfl rfl rfl (ok_getR 6 rfl rfl fl_X0_15 rfl rfl (ok_iconst 7 rfl rfl (by decide) (ok_lald 8 rfl rfl rfl (by first | omega | (simp [up_if]; omega) | (simp [up_if] at *; omega)) (ok_ldc2 9 (-1) rfl rfl kc_X0_44 (by decide) (ok_lcmp_ne 10 11 25 rfl rfl rfl rfl rfl (fun h17 => ?_) (fun h17 => ?_))))))
  · refine ok_iconst 14 rfl rfl (by decide) (ok_ist5 15 rfl rfl rfl (ok_iconst 16 rfl rfl (by decide) (ok_ist6 17 rfl rfl rfl ?_)))
    have v0 : 0 ≤ τ 18 0 := by
      by_cases q : p2 n - 1 = 0
      · rw [q] at hm; omega
      · have := (hT 0 (by omega) (by omega)).2.1; omega
    have ew : (fun i j => τ c (i * 8 + j)) = (fun i j => σ c (i * 8 + j)) := by funext i j; exact f c _ hc18
    have hcτ : ∀ k : Int, 0 ≤ k → k < 64 → 0 ≤ τ c k ∧ τ c k ≤ 799999992 := fun k a b => by rw [f c k hc18]; exact hc k a b
    have hvb : ∀ T, 0 ≤ T → T < p2 n → -1 ≤ τ 18 T ∧ τ 18 T ≤ 6399999936 := fun T a b => by
      by_cases q : T = p2 n - 1
      · rw [q, hm]; decide
      · have := (hT T a (by omega)).2; omega
    obtain ⟨G, eG⟩ : ∃ G, G = rcG op (fun i j => σ c (i * 8 + j)) (fun k => τ 18 k) := ⟨_, rfl⟩
    have gb : ∀ T j, G T j → bt T j = false := fun T j q => by rw [eG] at q; exact q.1.1
    refine lpO3 (fun (u r : Int) (_ : eS) => [some (vr 16), some (vr c), some (vl J), none, some (vi n), some (vi u), some (vi r), none]) (fun _ _ ρ => ρ) (fun u r ρ => 0 ≤ r ∧ r ≤ n ∧ fr (fun c _ => c = 17) τ ρ ∧ iCh ρ ∧ u = cs (fun i => ρ 17 i) r.toNat ∧ 0 ≤ τ 18 u ∧ ∀ i, 0 ≤ i → i < r → 0 ≤ ρ 17 i ∧ ρ 17 i < n ∧ G (cs (fun i => ρ 17 i) i.toNat) (ρ 17 i) ∧ ∀ j, 0 ≤ j → j < ρ 17 i → ¬ G (cs (fun i => ρ 17 i) i.toNat) j) (fun _ r _ => (8 - r).toNat) ?_ 0 0 τ ⟨by omega, by omega, fr.rf, hC0, rfl, v0, fun i a b => by omega⟩
    rintro u r ρ ⟨r1, r2, f1, hC1, eu, hv1, hP⟩ ih
    have e18 : ∀ k, ρ 18 k = τ 18 k := fun k => f1 18 k (by omega)
    have e18' : (fun k => ρ 18 k) = (fun k => τ 18 k) := by funext k; exact e18 k
    have ewρ : (fun i j => ρ c (i * 8 + j)) = (fun i j => σ c (i * 8 + j)) := by rw [← ew]; funext i j; exact f1 c _ hc17
    obtain ⟨c1, c2, c3⟩ := cs_in (ch := fun i => ρ 17 i) hn r.toNat (by omega) (fun i a b => by have := hP i a (by omega); exact ⟨this.1, this.2.1, gb _ _ this.2.2.1⟩)
    rw [← eu] at c1 c2 c3
    have pu : pc u = r := by omega
    refine ok_iload 18 rfl rfl rfl (ok_iload 19 rfl rfl rfl (ok_icmp_ge 20 86 rfl rfl rfl (fun h35 => ?_) (fun h35 => ?_)))
    · refine ok_aload_n 48 rfl rfl rfl (ok_getR 49 rfl rfl fl_X0_15 rfl rfl (ok_iconst 50 rfl rfl (by decide) (ok_lald 51 rfl rfl rfl (by first | omega | (simp [up_if]; omega) | (simp [up_if] at *; omega)) (ok_lret 52 rfl rfl rfl ?_))))
      refine ⟨_, rfl, f0.tr (f1.mono (fun c k q => by simp only [rgFr]; omega)), hC1, rfl, by rw [e18]; exact hm, ?_, fun _ => ?_⟩
      · rw [e18']
        intro T a b
        rw [e18]
        exact hT T a b
      · rw [e18', ← eG]
        intro i a b
        exact hP i a (by omega)
    · refine ok_aload_n 21 rfl rfl rfl (ok_aload_n 22 rfl rfl rfl (ok_iload 23 rfl rfl rfl (ok_lload_n 24 rfl rfl rfl (ok_iload 25 rfl rfl rfl (ok_callSI (M' := M_Jo_rowOf) (as := [_, _]) 26 rfl rfl ml_X0_26 (s_Jo_rowOf) ⟨Nat.le_of_ble_eq_true rfl, Nat.le_of_ble_eq_true rfl⟩ rfl (Nat.le_of_ble_eq_true rfl) (fun σ' z hz => ?_))))))
      rw [hz.1, hz.2]
      clear hz z σ'
      refine ok_iload 27 rfl rfl rfl (ok_iconst 28 rfl rfl (by decide) (ok_ixor 29 rfl rfl (ok_iand 30 rfl rfl (ok_iload 31 rfl rfl rfl (ok_iload 32 rfl rfl rfl ?_)))))
      have ul : u < p2 n - 1 := by
        by_cases q : u = p2 n - 1
        · have := (bitL (s := u) (n := n) ⟨c1, by omega⟩ hn).2.1 q; omega
        · omega
      have hex := rc_ex (hT u c1 ul).1 hv1
      have hr := t_Ch_richestColumn (σ := ρ) (c := c) (J := J) (u := u) (n := n) (op := op) hs hn hJ ⟨c1, c2⟩ ⟨by omega, by omega⟩ (fun k a b => by rw [f1 c k hc17]; exact hcτ k a b) (fun T a b => by rw [e18]; exact hvb T a b) (by rw [ewρ, e18']; exact hex)
      rw [ewρ, e18', ← eG, pu] at hr
      refine ok_callVI (M' := M_Ch_richestColumn) (as := [_, _, _, _, _]) 33 rfl rfl ml_X0_59 (hr) rfl rfl (Nat.le_of_ble_eq_true rfl) ⟨Nat.le_of_ble_eq_true rfl, Nat.le_of_ble_eq_true rfl⟩ rfl (Nat.le_of_ble_eq_true rfl) (fun σ' z hz => ?_)
      obtain ⟨hs_, hz⟩ := hz
      rw [hs_]; clear hs_ σ'
      obtain ⟨y1, y2, y3, y4⟩ := hz
      refine ok_ist7 34 rfl rfl rfl (ok_aload_n 35 rfl rfl rfl (ok_getR 36 rfl rfl fl_X0_9 rfl rfl (ok_iload 37 rfl rfl rfl (ok_iload 38 rfl rfl rfl (ok_iast 39 rfl rfl rfl (by first | omega | (simp [up_if]; omega) | (simp [up_if] at *; omega)) (ok_iload 40 rfl rfl rfl (ok_iconst 41 rfl rfl (by decide) (ok_iload 42 rfl rfl rfl (ok_ishl 43 rfl rfl (ok_ior 44 rfl rfl (ok_ist5 45 rfl rfl rfl (ok_inc6 46 rfl rfl rfl (by first | omega | (simp [up_if]; omega) | (simp [up_if] at *; omega)) (ok_goto 47 31 rfl rfl rfl ?_)))))))))))))
      rw [bitP (s := u) (j := z) ⟨c1, by omega⟩ ⟨y1, by omega⟩]
      have ecs : ∀ i : Int, 0 ≤ i → i ≤ r → cs (fun i => up ρ 17 r z 17 i) i.toNat = cs (fun i => ρ 17 i) i.toNat := fun i a b => cs_cg (fun k x y => by rw [up_nk _ _ _ _ (by omega)])
      have ec1 : cs (fun i => up ρ 17 r z 17 i) (r + 1).toNat = sB u z := by
        rw [cs_s _ r1, ecs r r1 (Int.le_refl _), ← eu, up_same]
      have gz : 0 ≤ τ 18 (sB u z) := by rw [eG] at y3; exact y3.1.2.2
      refine ok_fg [some (vr 16), some (vr c), some (vl J), none, some (vi n), some (vi _), some (vi (r + 1)), none] ⟨rfl, rfl, rfl, rfl, rfl, rfl, trivial⟩ (ih _ (r + 1) _ ⟨by omega, by omega, fr_up f1 rfl, up_ch hC1 ⟨by omega, by omega⟩, ec1.symm, gz, fun i a b => ?_⟩ (by omega))
      rw [ecs i a (by omega)]
      rcases (by omega : i < r ∨ i = r) with x | x
      · rw [up_nk _ _ _ _ (by omega)]; exact hP i a x
      · rw [x, up_same, ← eu]; exact ⟨y1, y2, y3, y4⟩
  · refine ok_ldc2 12 (-1) rfl rfl kc_X0_44 (by decide) (ok_lret 13 rfl rfl rfl ?_)
    exact ⟨_, rfl, f0, hC0, by omega, hm, hT, fun q => absurd rfl q⟩
/-- the reference's: the same first richest choice -/
theorem t_Mo_chooseGreatest {σ : eS} {l : Int} (h : nW σ) (hw : wBd σ) (hl : 0 ≤ l) (hc : cpl (σ 0 22) (fun i j => l ≤ wk σ i j) (σ 0 22).toNat 0) : MtL shB M_Mo_chooseGreatest [vr 0, vi l] σ (fun σ' z => fr (fun c _ => c = 10 ∨ c = 11) σ σ' ∧ z = σ' 10 0 ∧ 0 ≤ z ∧ σ' 10 (p2 (σ 0 22) - 1) = 0 ∧ (∀ T, 0 ≤ T → T < p2 (σ 0 22) - 1 → dpO (σ 0 22) 1 (fun i j => l ≤ wk σ i j) (wk σ) (fun k => σ' 10 k) T) ∧ fstC (σ 0 22) (rcG (fun i j => l ≤ wk σ i j) (wk σ) (fun k => σ' 10 k)) (fun i => σ' 11 i)) := by
  refine Mt.of okM_Mo_chooseGreatest (Nat.le_of_ble_eq_true rfl) (fun hk hg => ?_)
  obtain ⟨n, en⟩ : ∃ x, x = σ 0 22 := ⟨_, rfl⟩
  have hn : 1 ≤ n ∧ n ≤ 8 := by rw [en]; exact h
  obtain ⟨z1, z2, z3, z4⟩ := bit2 (n := n) (by omega)
  have z4 := z4 hn.1
  rw [← en] at hc ⊢
  have hwb : ∀ i j, 0 ≤ i → i < n → 0 ≤ j → j < n → 0 ≤ wk σ i j ∧ wk σ i j ≤ 799999992 := fun i j a1 a2 a3 a4 => hw i j a1 (by omega) a3 (by omega)
  refine ok_aload_n 0 rfl rfl rfl (ok_iload_n 1 rfl rfl rfl (ok_iconst 2 rfl rfl (by decide) (ok_callVV (M' := M_Mo_laysCan) (as := [_, _]) 3 rfl rfl ml_X12_256 (s_Mo_laysCan h hw hl (Or.inr rfl)) rfl rfl (Nat.le_of_ble_eq_true rfl) ⟨Nat.le_of_ble_eq_true rfl, Nat.le_of_ble_eq_true rfl⟩ rfl (Nat.le_of_ble_eq_true rfl) (fun τ hq => ?_))))
  rw [← en] at hq
  obtain ⟨q1, q2, q3⟩ := hq
  rw [if_neg (by decide)] at q2
  have hv0 : 0 ≤ τ 10 0 := (dp_ge (sums := 1) (v := fun k => τ 10 k) hn (fun i j a b c d => (hwb i j a b c d).1) q2 (fun T a b => (q3 T a b).1) n.toNat 0 (by omega) (by omega) (by simp [pc]) hc).1
  obtain ⟨G, eG⟩ : ∃ G, G = rcG (fun i j => l ≤ wk σ i j) (wk σ) (fun k => τ 10 k) := ⟨_, rfl⟩
  have hG : ∀ T j, G T j ↔ ((bt T j = false ∧ l ≤ wk σ (pc T) j ∧ 0 ≤ τ 10 (sB T j)) ∧ wk σ (pc T) j + τ 10 (sB T j) = τ 10 T) := fun T j => by rw [eG]; exact Iff.rfl
  have gb : ∀ T j, G T j → bt T j = false := fun T j q => ((hG T j).mp q).1.1
  refine ok_iconst 4 rfl rfl (by decide) (ok_ist2 5 rfl rfl rfl (ok_iconst 6 rfl rfl (by decide) (ok_ist3 7 rfl rfl rfl ?_)))
  refine lpO2 (fun (i : Int) (ρ : eS) => [some (vr 0), some (vi l), some (vi (cs (fun i => ρ 11 i) i.toNat)), some (vi i), none]) (fun _ ρ => ρ) (fun i ρ => 0 ≤ i ∧ i ≤ n ∧ fr (fun c _ => c = 11) τ ρ ∧ 0 ≤ τ 10 (cs (fun i => ρ 11 i) i.toNat) ∧ ∀ k : Int, 0 ≤ k → k < i → 0 ≤ ρ 11 k ∧ ρ 11 k < n ∧ G (cs (fun i => ρ 11 i) k.toNat) (ρ 11 k) ∧ ∀ j, 0 ≤ j → j < ρ 11 k → ¬ G (cs (fun i => ρ 11 i) k.toNat) j) (fun i _ => (n - i).toNat) ?_ 0 τ ⟨by omega, by omega, fr.rf, hv0, fun k a b => by omega⟩
  rintro i ρ ⟨k1, k2, k3, k7, k8⟩ ih
  obtain ⟨k4, k5, k6⟩ := cs_in (n := n) (ch := fun i => ρ 11 i) ⟨by omega, by omega⟩ i.toNat (by omega) (fun k a b => by have := k8 k a (by omega); exact ⟨this.1, this.2.1, gb _ _ this.2.2.1⟩)
  obtain ⟨S, eS⟩ : ∃ x, x = cs (fun i => ρ 11 i) i.toNat := ⟨_, rfl⟩
  rw [← eS] at k4 k5 k6 k7 ⊢
  have pS : pc S = i := by omega
  have f1 : fr (fun c _ => c = 10 ∨ c = 11) σ ρ := fun c k q => by rw [k3 c k (by omega), q1 c k (by omega)]
  have u2 : ρ 0 22 = n := by rw [f1 0 22 (by omega), en]
  have u3 : nW ρ := h.fr' (by rw [u2, en])
  have u1 : wk ρ = wk σ := by funext a b; unfold wk; rw [f1 0 22 (by omega), f1 9 _ (by omega)]
  have u10 : ∀ k, ρ 10 k = τ 10 k := fun k => k3 10 k (by omega)
  have u10' : (fun k => ρ 10 k) = (fun k => τ 10 k) := by funext k; exact u10 k
  refine ok_iload_n 8 rfl rfl rfl (ok_aload_n 9 rfl rfl rfl (ok_getI 10 rfl rfl fl_X12_234 rfl rfl (Or.inl rfl) (ok_icmp_ge 11 115 rfl rfl rfl (fun h15 => ?_) (fun h15 => ?_))))
  · refine ok_aload_n 73 rfl rfl rfl (ok_getR 74 rfl rfl fl_X12_42 rfl rfl (ok_iconst 75 rfl rfl (by decide) (ok_lald 76 rfl rfl rfl (by first | omega | (simp [up_if]; omega) | (simp [up_if] at *; omega)) (ok_lret 77 rfl rfl rfl ?_))))
    refine ⟨_, rfl, f1, rfl, by rw [u10]; exact hv0, by rw [u10]; exact q2, ?_, ?_⟩
    · rw [u10']; intro T a b; exact dpO_of (q3 T a b).1
    · rw [u10', ← eG]; intro k a b; exact k8 k a (by omega)
  · refine ok_iconst 12 rfl rfl (by decide) (ok_ist4 13 rfl rfl rfl ?_)
    have hin : i < n := by omega
    have hS : S < p2 n - 1 := by
      by_cases q : S = p2 n - 1
      · have := (bitL (s := S) (n := n) (by omega) (by omega)).2.1 q; omega
      · omega
    have hex : ∃ j, 0 ≤ j ∧ j < n ∧ G S j := by rw [eG]; exact rc_ex (dpO_of (q3 S k4 hS).1) k7
    refine lpO (fun j : Int => [some (vr 0), some (vi l), some (vi S), some (vi i), some (vi j)]) (fun _ => ρ) (fun j => 0 ≤ j ∧ j < n ∧ ∀ j', 0 ≤ j' → j' < j → ¬ G S j') (fun j => (n - j).toNat) ?_ 0 ⟨by omega, by omega, fun j' a b => by omega⟩
    rintro j ⟨j1, j2, j3⟩ ih2
    have e1 := bitG (s := S) (j := j) (by omega) (by omega)
    have e2 := bitP (s := S) (j := j) (by omega) (by omega)
    obtain ⟨l1, l2⟩ := sB_lt (s := S) (j := j) (n := n) ⟨k4, k5⟩ ⟨j1, j2⟩
    have wb := hwb i j k1 hin j1 j2
    have hGS := hG S j
    rw [pS] at hGS
    have nxt : ¬ G S j → Ok shB M_Mo_chooseGreatest 88 [some (vr 0), some (vi l), some (vi S), some (vi i), some (vi j)] [] ρ (fun σ' v => ∃ z, v = some (vl z) ∧ fr (fun c _ => c = 10 ∨ c = 11) σ σ' ∧ z = σ' 10 0 ∧ 0 ≤ z ∧ σ' 10 (p2 n - 1) = 0 ∧ (∀ T, 0 ≤ T → T < p2 n - 1 → dpO n 1 (fun i j => l ≤ wk σ i j) (wk σ) (fun k => σ' 10 k) T) ∧ fstC n (rcG (fun i j => l ≤ wk σ i j) (wk σ) (fun k => σ' 10 k)) (fun i => σ' 11 i)) := by
      intro hno
      have hj : j + 1 < n := by
        obtain ⟨j', a1, a2, a3⟩ := hex
        by_cases q : j' < j
        · exact absurd a3 (j3 j' a1 q)
        · by_cases q' : j' = j
          · rw [q'] at a3; exact absurd a3 hno
          · omega
      clear hex
      refine ok_inc4 58 rfl rfl rfl (by first | omega | (simp [up_if]; omega) | (simp [up_if] at *; omega)) (ok_goto 59 21 rfl rfl rfl ?_)
      exact ih2 (j + 1) ⟨by omega, hj, lt_ext j3 hno⟩ (by omega)
    clear hex
    refine ok_iload_n 14 rfl rfl rfl (ok_iload 15 rfl rfl rfl (ok_ishr 16 rfl rfl (ok_iconst 17 rfl rfl (by decide) (ok_iand 18 rfl rfl ?_))))
    rw [e1]
    refine ok_iconst 19 rfl rfl (by decide) (ok_icmp_eq 20 88 rfl rfl rfl (fun h28 => ?_) (fun h28 => ?_))
    · exact nxt (fun q => by have q1 := (hGS.mp q).1.1; rw [b1'.mp h28] at q1; cases q1)
    · have hb : bt S j = false := by
        cases hq : bt S j with
        | false => rfl
        | true => exact absurd (b1'.mpr hq) h28
      have hcp := bitC (s := S) (j := j) (by omega) (by omega) hb
      refine ok_aload_n 21 rfl rfl rfl (ok_iload_n 22 rfl rfl rfl (ok_iload 23 rfl rfl rfl (ok_callVI (M' := M_Mo_worked) (as := [_, _]) 24 rfl rfl ml_X12_244 (s_Mo_worked u3 (by omega) (by omega)) rfl rfl (Nat.le_of_ble_eq_true rfl) ⟨Nat.le_of_ble_eq_true rfl, Nat.le_of_ble_eq_true rfl⟩ rfl (Nat.le_of_ble_eq_true rfl) (fun σ' z hz => ?_))))
      rw [hz.1, hz.2, u1]; clear hz z σ'
      refine ok_iload_n 25 rfl rfl rfl (ok_icmp_lt 26 88 rfl rfl rfl (fun h39 => ?_) (fun h39 => ?_))
      · exact nxt (fun q => by have := (hGS.mp q).1.2.1; omega)
      · refine ok_aload_n 27 rfl rfl rfl (ok_getR 28 rfl rfl fl_X12_42 rfl rfl (ok_iload_n 29 rfl rfl rfl (ok_iconst 30 rfl rfl (by decide) (ok_iload 31 rfl rfl rfl (ok_ishl 32 rfl rfl (ok_ior 33 rfl rfl ?_))))))
        rw [e2]
        refine ok_lald 34 rfl rfl rfl (by omega) ?_
        rw [u10]
        refine ok_lconst (w := 0) 35 rfl rfl rfl (by decide) (ok_lcmp_lt 36 37 88 rfl rfl rfl rfl rfl (fun h54 => ?_) (fun h54 => ?_))
        · exact nxt (fun q => by have q9 := (hGS.mp q).1.2.2; omega)
        · have vb : τ 10 (sB S j) ≤ 6399999936 := by
            by_cases q : sB S j = p2 n - 1
            · rw [q, q2]; decide
            · have := (q3 (sB S j) l1 (by omega)).2.2; omega
          refine ok_aload_n 38 rfl rfl rfl (ok_iload_n 39 rfl rfl rfl (ok_iload 40 rfl rfl rfl (ok_callVI (M' := M_Mo_worked) (as := [_, _]) 41 rfl rfl ml_X12_244 (s_Mo_worked u3 (by omega) (by omega)) rfl rfl (Nat.le_of_ble_eq_true rfl) ⟨Nat.le_of_ble_eq_true rfl, Nat.le_of_ble_eq_true rfl⟩ rfl (Nat.le_of_ble_eq_true rfl) (fun σ' z hz => ?_))))
          rw [hz.1, hz.2, u1]; clear hz z σ'
          refine ok_i2l 42 rfl rfl (ok_aload_n 43 rfl rfl rfl (ok_getR 44 rfl rfl fl_X12_42 rfl rfl (ok_iload_n 45 rfl rfl rfl (ok_iconst 46 rfl rfl (by decide) (ok_iload 47 rfl rfl rfl (ok_ishl 48 rfl rfl (ok_ior 49 rfl rfl ?_)))))))
          rw [e2]
          refine ok_lald 50 rfl rfl rfl (by omega) ?_
          rw [u10]
          refine ok_ladd 51 rfl rfl (by first | omega | (simp [up_if]; omega) | (simp [up_if] at *; omega)) (ok_aload_n 52 rfl rfl rfl (ok_getR 53 rfl rfl fl_X12_42 rfl rfl (ok_iload_n 54 rfl rfl rfl (ok_lald 55 rfl rfl rfl (by omega) ?_))))
          rw [u10]
          refine ok_lcmp_eq 56 57 94 rfl rfl rfl rfl rfl (fun h84 => ?_) (fun h84 => ?_)
          · have hok : G S j := hGS.mpr ⟨⟨hb, by omega, by omega⟩, by omega⟩
            refine ok_aload_n 60 rfl rfl rfl (ok_getR 61 rfl rfl fl_X12_45 rfl rfl (ok_iload_n 62 rfl rfl rfl (ok_iload 63 rfl rfl rfl (ok_iast 64 rfl rfl rfl (by first | omega | (simp [up_if]; omega) | (simp [up_if] at *; omega)) (ok_iload_n 65 rfl rfl rfl (ok_iconst 66 rfl rfl (by decide) (ok_iload 67 rfl rfl rfl (ok_ishl 68 rfl rfl (ok_ior 69 rfl rfl (ok_ist2 70 rfl rfl rfl (ok_inc3 71 rfl rfl rfl (by first | omega | (simp [up_if]; omega) | (simp [up_if] at *; omega)) (ok_goto 72 10 rfl rfl rfl ?_))))))))))))
            rw [e2]
            have ecs : ∀ k : Int, 0 ≤ k → k ≤ i → cs (fun q => up ρ 11 i j 11 q) k.toNat = cs (fun q => ρ 11 q) k.toNat := fun k a b => cs_cg (fun q a' b' => by rw [up_nk _ _ _ _ (by omega)])
            have ec1 : cs (fun q => up ρ 11 i j 11 q) (i + 1).toNat = sB S j := by
              rw [cs_s _ k1, ecs i k1 (Int.le_refl _), ← eS, up_same]
            have hfin := ih (i + 1) (up ρ 11 i j) ⟨by omega, by omega, fr_up k3 rfl, by rw [ec1]; omega, fun k a b => ?_⟩ (by omega)
            · rw [ec1] at hfin
              exact ok_fg [some (vr 0), some (vi l), some (vi (sB S j)), some (vi (i + 1)), none] ⟨rfl, rfl, rfl, rfl, trivial⟩ hfin
            · rw [ecs k a (by omega)]
              by_cases q : k = i
              · rw [q, up_same, ← eS]
                exact ⟨j1, j2, hok, j3⟩
              · rw [up_nk _ _ _ _ q]
                exact k8 k a (by omega)
          · exact nxt (fun q => h84 (hGS.mp q).2)
end
section
/-! HOW MANY CHOICES: from the first rows on, or from the last ones back -/
def CAk (n : Int) (w : Int → Int → Int) : Nat → Int → Int
  | 0, _ => 1
  | m + 1, s => sm (fun j => if bt s j = false then w (n - ((m + 1 : Nat) : Int)) j * CAk n w m (sB s j) else 0) n.toNat
theorem sm_s2 (f : Int → Int) : ∀ n : Nat, sm f n = s2 (fun k => f (k : Int)) n
  | 0 => rfl
  | n + 1 => by show sm f n + f n = s2 (fun k => f (k : Int)) n + f n; rw [sm_s2 f n]
/-- a sum goes over its places in any order that is its own way back -/
theorem s2_inv {h : Nat → Int} {φ : Nat → Nat} {N : Nat} (h1 : ∀ S, S < N → φ S < N) (h2 : ∀ S, S < N → φ (φ S) = S) : s2 (fun S => h (φ S)) N = s2 h N := by
  have a : s2 (fun S => h (φ S)) N = s2 (fun S => s2 (fun T => if T = φ S then h T else 0) N) N := s2_cg (fun S hS => (s2_one (x := φ S) h (h1 S hS)).symm)
  have b : s2 h N = s2 (fun T => s2 (fun S => if T = φ S then h T else 0) N) N := s2_cg (fun T hT => by
    have : s2 (fun S => if T = φ S then h T else 0) N = s2 (fun S => if S = φ T then (fun _ => h T) S else 0) N := s2_cg (fun S hS => by
      by_cases q : T = φ S
      · rw [if_pos q, if_pos (by rw [q, h2 S hS])]
      · rw [if_neg q, if_neg (fun w => q (by rw [w, h2 T hT]))])
    rw [this, s2_one (x := φ T) (fun _ => h T) (h1 T hT)])
  rw [a, b]
  exact s2_swap (fun S T => if T = φ S then h T else 0) N N
theorem bit_xs : ∀ s : Fin 256, ∀ j : Fin 8, bt (s.val : Int) (j.val : Int) = false → ixor (s.val : Int) (ishl 1 (j.val : Int)) = sB (s.val : Int) (j.val : Int) := by decide +kernel
theorem bitXs {s j : Int} (h1 : 0 ≤ s ∧ s < 256) (h2 : 0 ≤ j ∧ j < 8) (h : bt s j = false) : ixor s (ishl 1 j) = sB s j := fin2 (P := fun s j => bt s j = false → ixor s (ishl 1 j) = sB s j) bit_xs h1.1 h1.2 h2.1 h2.2 h
theorem bt_tf {s j : Int} (h : ¬ bt s j = true) : bt s j = false := by cases q : bt s j with | false => rfl | true => exact absurd q h
theorem x_inv {n s j : Int} (hn : 0 ≤ n ∧ n ≤ 8) (hs : 0 ≤ s ∧ s < p2 n) (hj : 0 ≤ j ∧ j < n) : (0 ≤ ixor s (ishl 1 j) ∧ ixor s (ishl 1 j) < p2 n) ∧ ixor (ixor s (ishl 1 j)) (ishl 1 j) = s := by
  have b := bit2 hn
  have s256 : 0 ≤ s ∧ s < 256 := ⟨hs.1, by omega⟩
  by_cases q : bt s j = true
  · have x := bitX s256 ⟨hj.1, by omega⟩ q
    have y := bitXp s256 ⟨hj.1, by omega⟩ q
    refine ⟨⟨x.1, by omega⟩, ?_⟩
    rw [bitXs ⟨x.1, by omega⟩ ⟨hj.1, by omega⟩ y.2.2, y.2.1]
  · have q := bt_tf q
    have y := sB_lt hs hj
    rw [bitXs s256 ⟨hj.1, by omega⟩ q]
    exact ⟨y, bitSx s256 ⟨hj.1, by omega⟩ q⟩
def phi (n : Int) (w : Int → Int → Int) (k : Nat) : Int := s2 (fun S => if pc (S : Int) = (k : Int) then PMk n.toNat w k S * CAk n w (n.toNat - k) S else 0) (p2 n).toNat
theorem mul_s2 (c : Int) (f : Nat → Int) (n : Nat) : c * s2 f n = s2 (fun k => c * f k) n := by
  rw [Int.mul_comm, ← s2_mul]
  exact s2_cg (fun k _ => Int.mul_comm _ _)
theorem phi_s {n : Int} {w : Int → Int → Int} (hn : 0 ≤ n ∧ n ≤ 8) {k : Nat} (hk : (k : Int) < n) : phi n w k = phi n w (k + 1) := by
  have b := bit2 hn
  have em : n.toNat - k = (n.toNat - (k + 1)) + 1 := by omega
  have ek : n - (((n.toNat - (k + 1)) + 1 : Nat) : Int) = (k : Int) := by omega
  have l : phi n w k = s2 (fun S => s2 (fun j => if pc (S : Int) = (k : Int) ∧ bt (S : Int) (j : Int) = false then PMk n.toNat w k S * (w k j * CAk n w (n.toNat - (k + 1)) (sB S j)) else 0) n.toNat) (p2 n).toNat := by
    refine s2_cg (fun S hS => ?_)
    by_cases q : pc (S : Int) = (k : Int)
    · rw [if_pos q, em, CAk, sm_s2, mul_s2]
      refine s2_cg (fun j hj => ?_)
      by_cases y : bt (S : Int) (j : Int) = false
      · rw [if_pos y, if_pos ⟨q, y⟩, ek]
      · rw [if_neg y, if_neg (fun z => y z.2), Int.mul_zero]
    · rw [if_neg q]
      have : s2 (fun j => if pc (S : Int) = (k : Int) ∧ bt (S : Int) (j : Int) = false then PMk n.toNat w k S * (w k j * CAk n w (n.toNat - (k + 1)) (sB S j)) else 0) n.toNat = s2 (fun _ => 0) n.toNat := s2_cg (fun j hj => if_neg (fun z => q z.1))
      rw [this, s2_0]
  have r : phi n w (k + 1) = s2 (fun S => s2 (fun j => if pc (S : Int) = ((k + 1 : Nat) : Int) ∧ bt (S : Int) (j : Int) = true then w k j * PMk n.toNat w k (ixor S (ishl 1 j)) * CAk n w (n.toNat - (k + 1)) S else 0) n.toNat) (p2 n).toNat := by
    refine s2_cg (fun S hS => ?_)
    by_cases q : pc (S : Int) = ((k + 1 : Nat) : Int)
    · rw [if_pos q, PMk, sm_s2, ← s2_mul]
      refine s2_cg (fun j hj => ?_)
      by_cases y : bt (S : Int) (j : Int) = true
      · rw [if_pos y, if_pos ⟨q, y⟩]
      · rw [if_neg y, if_neg (fun z => y z.2), Int.zero_mul]
    · rw [if_neg q]
      have : s2 (fun j => if pc (S : Int) = ((k + 1 : Nat) : Int) ∧ bt (S : Int) (j : Int) = true then w k j * PMk n.toNat w k (ixor S (ishl 1 j)) * CAk n w (n.toNat - (k + 1)) S else 0) n.toNat = s2 (fun _ => 0) n.toNat := s2_cg (fun j hj => if_neg (fun z => q z.1))
      rw [this, s2_0]
  rw [l, r, s2_swap, s2_swap (fun S j => if pc (S : Int) = ((k + 1 : Nat) : Int) ∧ bt (S : Int) (j : Int) = true then w k j * PMk n.toNat w k (ixor S (ishl 1 j)) * CAk n w (n.toNat - (k + 1)) S else 0)]
  refine s2_cg (fun j hj => ?_)
  have inv : ∀ S : Nat, S < (p2 n).toNat → (0 ≤ ixor (S : Int) (ishl 1 (j : Int)) ∧ ixor (S : Int) (ishl 1 (j : Int)) < p2 n) ∧ ixor (ixor (S : Int) (ishl 1 (j : Int))) (ishl 1 (j : Int)) = (S : Int) := fun S hS => x_inv hn ⟨by omega, by omega⟩ ⟨by omega, by omega⟩
  have e := s2_inv (h := fun T => if pc (T : Int) = ((k + 1 : Nat) : Int) ∧ bt (T : Int) (j : Int) = true then w k j * PMk n.toNat w k (ixor T (ishl 1 j)) * CAk n w (n.toNat - (k + 1)) T else 0) (φ := fun S => (ixor (S : Int) (ishl 1 (j : Int))).toNat) (N := (p2 n).toNat) (fun S hS => by have := (inv S hS).1; omega) (fun S hS => by
    have x := inv S hS
    try dsimp only
    rw [Int.toNat_of_nonneg x.1.1, x.2]; exact Int.toNat_natCast S)
  rw [← e]
  refine s2_cg (fun S hS => ?_)
  have x := inv S hS
  try dsimp only
  rw [Int.toNat_of_nonneg x.1.1, x.2]
  by_cases y : bt (S : Int) (j : Int) = true
  · have z := bitXp (s := S) (j := j) ⟨by omega, by omega⟩ ⟨by omega, by omega⟩ y
    rw [if_neg (fun c => by rw [y] at c; exact absurd c.2 (by decide)), if_neg (fun c => by rw [z.2.2] at c; exact absurd c.2 (by decide))]
  · have y := bt_tf y
    have z := bitXs (s := S) (j := j) ⟨by omega, by omega⟩ ⟨by omega, by omega⟩ y
    have p := (bitC (s := S) (j := j) ⟨by omega, by omega⟩ ⟨by omega, by omega⟩ y).1
    have bj : bt (sB (S : Int) (j : Int)) (j : Int) = true := by rw [bt_sB (by omega) (by omega)]; simp
    rw [z]
    by_cases q : pc (S : Int) = (k : Int)
    · rw [if_pos ⟨q, y⟩, if_pos ⟨by rw [p, q]; omega, bj⟩, Int.mul_left_comm, Int.mul_assoc]
    · rw [if_neg (fun c => q c.1), if_neg (fun c => q (by have := c.1; rw [p] at this; omega))]
theorem CA_PM {n : Int} {w : Int → Int → Int} (hn : 0 ≤ n ∧ n ≤ 8) : CAk n w n.toNat 0 = PMv n w (p2 n - 1) := by
  have b := bit2 hn
  have all : ∀ k : Nat, (k : Int) ≤ n → phi n w 0 = phi n w k := by
    intro k
    induction k with
    | zero => intro _; rfl
    | succ k ih => intro h; rw [ih (by omega)]; exact phi_s hn (by omega)
  have h0 : phi n w 0 = CAk n w n.toNat 0 := by
    have : phi n w 0 = s2 (fun S => if S = 0 then (fun S : Nat => PMk n.toNat w 0 S * CAk n w (n.toNat - 0) S) S else 0) (p2 n).toNat := s2_cg (fun S hS => by
      by_cases q : S = 0
      · rw [if_pos q, if_pos (by rw [q]; exact pc_0)]
      · rw [if_neg q, if_neg (fun c => by have := pc1 (s := (S : Int)) ⟨by omega, by omega⟩ (by omega); omega)])
    rw [this, s2_one _ (by omega)]
    show 1 * CAk n w n.toNat 0 = _
    rw [Int.one_mul]
  have hN : phi n w n.toNat = PMv n w (p2 n - 1) := by
    have pf := (bitL (s := p2 n - 1) (n := n) ⟨by omega, by omega⟩ hn).2.1 rfl
    have : phi n w n.toNat = s2 (fun S => if S = (p2 n - 1).toNat then (fun S : Nat => PMk n.toNat w n.toNat S * CAk n w (n.toNat - n.toNat) S) S else 0) (p2 n).toNat := s2_cg (fun S hS => by
      by_cases q : S = (p2 n - 1).toNat
      · rw [if_pos q, if_pos (by rw [q, Int.toNat_of_nonneg (by omega), pf]; omega)]
      · rw [if_neg q, if_neg (fun c => by have := (bitL (s := (S : Int)) (n := n) ⟨by omega, by omega⟩ hn).1 (by omega); omega)])
    rw [this, s2_one _ (by omega)]
    try dsimp only
    rw [Nat.sub_self, Int.toNat_of_nonneg (by omega)]
    show PMk n.toNat w n.toNat (p2 n - 1) * 1 = _
    rw [Int.mul_one]
    unfold PMv
    rw [pf]
  rw [← h0, ← hN]
  exact all n.toNat (by omega)
def e8 : Nat → Int
  | 0 => 1
  | m + 1 => 8 * e8 m
theorem e8_bd : ∀ m : Nat, m ≤ 8 → 1 ≤ e8 m ∧ e8 m ≤ 16777216 := by
  intro m h
  have : m = 0 ∨ m = 1 ∨ m = 2 ∨ m = 3 ∨ m = 4 ∨ m = 5 ∨ m = 6 ∨ m = 7 ∨ m = 8 := by omega
  rcases this with q | q | q | q | q | q | q | q | q <;> subst q <;> decide
theorem CAk_bd {n : Int} {w : Int → Int → Int} (hn : 0 ≤ n ∧ n ≤ 8) (hw : ∀ i j, 0 ≤ i → i < n → 0 ≤ j → j < n → 0 ≤ w i j ∧ w i j ≤ 1) : ∀ (m : Nat) (s : Int), (m : Int) ≤ n → 0 ≤ CAk n w m s ∧ CAk n w m s ≤ e8 m
  | 0, s, _ => by show (0 : Int) ≤ 1 ∧ (1 : Int) ≤ 1; decide
  | m + 1, s, h => by
    have eb := (e8_bd m (by omega)).1
    rw [CAk]
    have := sm_bd (f := fun j => if bt s j = false then w (n - ((m + 1 : Nat) : Int)) j * CAk n w m (sB s j) else 0) (B := e8 m) (by omega) (n := n.toNat) (fun j a b => by
      try dsimp only
      split
      · have x := hw (n - ((m + 1 : Nat) : Int)) j (by omega) (by omega) a (by omega)
        have y := CAk_bd hn hw m (sB s j) (by omega)
        refine ⟨Int.mul_nonneg x.1 y.1, ?_⟩
        rcases (by omega : w (n - ((m + 1 : Nat) : Int)) j = 0 ∨ w (n - ((m + 1 : Nat) : Int)) j = 1) with q | q
        · rw [q, Int.zero_mul]; omega
        · rw [q, Int.one_mul]; exact y.2
      · omega)
    refine ⟨this.1, Int.le_trans this.2 ?_⟩
    show e8 m * (n.toNat : Int) ≤ 8 * e8 m
    rw [Int.mul_comm]
    exact Int.mul_le_mul_of_nonneg_right (by omega) (by omega)
def w01 (op : Int → Int → Prop) (z : Int → Int → Int) : Prop := ∀ i j, (op i j ∧ z i j = 1) ∨ (¬ op i j ∧ z i j = 0)
theorem t_Ch_countAll {σ : eS} {J n : Int} {op : Int → Int → Prop} {w : Int → Int → Int} (hn : 0 ≤ n ∧ n ≤ 8) (hJ : jOf J n op) (hw : w01 op w) : MtL shA M_Ch_countAll [vr 16, vl J, vi n] σ (fun σ' z => fr (fun c _ => c = 18) σ σ' ∧ z = CAk n w n.toNat 0 ∧ 0 ≤ z ∧ z ≤ 16777216) := by
  refine Mt.of okM_Ch_countAll (Nat.le_of_ble_eq_true rfl) (fun hk hg => ?_)
  have b2 := bit2 hn
  have wb : ∀ i j, 0 ≤ i → i < n → 0 ≤ j → j < n → 0 ≤ w i j ∧ w i j ≤ 1 := fun i j _ _ _ _ => by rcases hw i j with q | q <;> omega
  have cb : ∀ T, 0 ≤ T → T < p2 n → 0 ≤ CAk n w (n - pc T).toNat T ∧ CAk n w (n - pc T).toNat T ≤ 16777216 := fun T a b => by
    have p := pc_bd hn ⟨a, b⟩
    have x := CAk_bd hn wb (n - pc T).toNat T (by omega)
    have y := e8_bd (n - pc T).toNat (by omega)
    omega
  refine ok_iconst 0 rfl rfl (by decide) (ok_iload_n 1 rfl rfl rfl (ok_ishl 2 rfl rfl ?_))
  rw [b2.1]
  refine ok_iconst 3 rfl rfl (by decide) (ok_isub 4 rfl rfl (by first | omega | (simp [up_if]; omega) | (simp [up_if] at *; omega)) (ok_ist4 5 rfl rfl rfl (ok_aload_n 6 rfl rfl rfl (ok_getR 7 rfl rfl fl_X0_15 rfl rfl (ok_iload 8 rfl rfl rfl (ok_lconst (w := 1) 9 rfl rfl rfl (by decide) (ok_last 10 rfl rfl rfl (by first | omega | (simp [up_if]; omega) | (simp [up_if] at *; omega)) (ok_iload 11 rfl rfl rfl (ok_iconst 12 rfl rfl (by decide) (ok_isub 13 rfl rfl (by first | omega | (simp [up_if]; omega) | (simp [up_if] at *; omega)) (ok_ist5 14 rfl rfl rfl ?_)))))))))))
  refine lpO2 (fun (s : Int) (_ : eS) => [some (vr 16), some (vl J), none, some (vi n), some (vi (p2 n - 1)), some (vi s), none, none, none, none]) (fun _ ρ => ρ) (fun s ρ => -1 ≤ s ∧ s < p2 n - 1 ∧ fr (fun c _ => c = 18) σ ρ ∧ ∀ T, s < T → T < p2 n → ρ 18 T = CAk n w (n - pc T).toNat T) (fun s _ => (s + 1).toNat) ?_ (p2 n - 1 - 1) _ ⟨by omega, by omega, fr_up fr.rf rfl, fun T a b => by
    have pf := (bitL (s := p2 n - 1) (n := n) ⟨by omega, by omega⟩ hn).2.1 rfl
    rw [show T = p2 n - 1 by omega, up_same, pf, Int.sub_self]; rfl⟩
  rintro s ρ ⟨s1, s2, f, hT⟩ ih
  refine ok_iload 15 rfl rfl rfl (ok_if_lt 16 102 rfl rfl rfl (fun h23 => ?_) (fun h23 => ?_))
  · refine ok_aload_n 59 rfl rfl rfl (ok_getR 60 rfl rfl fl_X0_15 rfl rfl (ok_iconst 61 rfl rfl (by decide) (ok_lald 62 rfl rfl rfl (by first | omega | (simp [up_if]; omega) | (simp [up_if] at *; omega)) (ok_lret 63 rfl rfl rfl ?_))))
    have e0 := hT 0 (by omega) (by omega)
    rw [pc_0, Int.sub_zero] at e0
    have := cb 0 (by omega) (by omega)
    rw [pc_0, Int.sub_zero] at this
    exact ⟨_, rfl, f, e0, by omega, by omega⟩
  · refine ok_lload_n 17 rfl rfl rfl (ok_iload 18 rfl rfl rfl (ok_callSI (M' := M_Ji_bitCount) (as := [_]) 19 rfl rfl ml_X0_38 (s_Ji_bitCount) ⟨Nat.le_of_ble_eq_true rfl, Nat.le_of_ble_eq_true rfl⟩ rfl (Nat.le_of_ble_eq_true rfl) (fun σ' z hz => ?_)))
    rw [hz.1, hz.2]
    clear hz z σ'
    refine ok_callSI (M' := M_Jo_rowOf) (as := [_, _]) 20 rfl rfl ml_X0_26 (s_Jo_rowOf) ⟨Nat.le_of_ble_eq_true rfl, Nat.le_of_ble_eq_true rfl⟩ rfl (Nat.le_of_ble_eq_true rfl) (fun σ' z hz => ?_)
    rw [hz.1, hz.2]
    clear hz z σ'
    refine ok_iload 21 rfl rfl rfl (ok_iconst 22 rfl rfl (by decide) (ok_ixor 23 rfl rfl (ok_iand 24 rfl rfl (ok_ist6 25 rfl rfl rfl (ok_lconst (w := 0) 26 rfl rfl rfl (by decide) (ok_lst7 27 rfl rfl rfl (ok_iconst 28 rfl rfl (by decide) (ok_ist9 29 rfl rfl rfl ?_))))))))
    have p1 := (bitL (s := s) ⟨by omega, by omega⟩ hn)
    have p3 := p1.1 s2
    have p4 := p1.2.2.1
    clear p1
    rw [bcP (s := s) ⟨by omega, by omega⟩]
    obtain ⟨o, eo⟩ : ∃ o : Int, o = iand (rowJ J (pc s)) (ixor s (-1)) := ⟨_, rfl⟩
    rw [← eo]
    obtain ⟨F, eF⟩ : ∃ F : Int → Int, F = fun j => if bt s j = false then w (pc s) j * CAk n w (n - pc s - 1).toNat (sB s j) else 0 := ⟨_, rfl⟩
    have hF : ∀ j, F j = if bt s j = false then w (pc s) j * CAk n w (n - pc s - 1).toNat (sB s j) else 0 := fun j => by rw [eF]
    have hA : CAk n w (n - pc s).toNat s = sm F n.toNat := by
      rw [show (n - pc s).toNat = (n - pc s - 1).toNat + 1 by omega, CAk, eF, show n - (((n - pc s - 1).toNat + 1 : Nat) : Int) = pc s by omega]
    clear eF
    have term : ∀ j, 0 ≤ j → j < n → bt s j = false → op (pc s) j → F j = ρ 18 (sB s j) ∧ 0 ≤ ρ 18 (sB s j) ∧ ρ 18 (sB s j) ≤ 16777216 := fun j a b c d => by
      have sl := sB_lt (s := s) (j := j) (n := n) ⟨by omega, by omega⟩ ⟨a, b⟩
      have sp := bitC (s := s) (j := j) ⟨by omega, by omega⟩ ⟨a, by omega⟩ c
      have e := hT (sB s j) sp.2 sl.2
      have := cb _ sl.1 sl.2
      rw [hF, if_pos c]
      rcases hw (pc s) j with y | y
      · rw [y.2, Int.one_mul, e, sp.1, show n - (pc s + 1) = n - pc s - 1 by omega]
        rw [sp.1, show n - (pc s + 1) = n - pc s - 1 by omega] at this
        exact ⟨rfl, this.1, this.2⟩
      · exact absurd d y.1
    have no : ∀ j, ¬ (bt s j = false ∧ op (pc s) j) → F j = 0 := fun j c => by
      rw [hF]
      by_cases y : bt s j = false
      · rw [if_pos y]
        rcases hw (pc s) j with x | x
        · exact absurd ⟨y, x.1⟩ c
        · rw [x.2, Int.zero_mul]
      · rw [if_neg y]
    refine lpO2 (fun (v j : Int) => [some (vr 16), some (vl J), none, some (vi n), some (vi (p2 n - 1)), some (vi s), some (vi o), some (vl v), none, some (vi j)]) (fun _ _ => ρ) (fun v j => 0 ≤ j ∧ j ≤ n ∧ 0 ≤ v ∧ v ≤ 16777216 * j ∧ v = sm F j.toNat) (fun _ j => (8 - j).toNat) ?_ 0 0 ⟨by omega, by omega, by omega, by omega, rfl⟩
    rintro v j ⟨j1, j2, v1, v2, v3⟩ ih2
    have es := sm_s F j1
    rw [← v3] at es
    refine ok_iload 30 rfl rfl rfl (ok_iload_n 31 rfl rfl rfl (ok_icmp_ge 32 87 rfl rfl rfl (fun h51 => ?_) (fun h51 => ?_)))
    · refine ok_aload_n 52 rfl rfl rfl (ok_getR 53 rfl rfl fl_X0_15 rfl rfl (ok_iload 54 rfl rfl rfl (ok_lload 55 rfl rfl rfl (ok_last 56 rfl rfl rfl (by first | omega | (simp [up_if]; omega) | (simp [up_if] at *; omega)) (ok_inc5 57 rfl rfl rfl (by first | omega | (simp [up_if]; omega) | (simp [up_if] at *; omega)) (ok_goto 58 21 rfl rfl rfl ?_))))))
      refine ok_fg [some (vr 16), some (vl J), none, some (vi n), some (vi (p2 n - 1)), some (vi (s + -1)), none, none, none, none] ⟨rfl, rfl, rfl, rfl, rfl, trivial⟩ (ih (s + -1) _ ⟨by omega, by omega, fr_up f rfl, fun T a b => ?_⟩ (by omega))
      by_cases q : T = s
      · rw [q, up_same, hA, v3, show j = n by omega]
      · rw [up_nk _ _ _ _ q]; exact hT T (by omega) b
    · have hop := open_sp hn hJ (T := s) ⟨by omega, by omega⟩ ⟨p4, p3⟩ (j := j) ⟨j1, by omega⟩
      rw [← eo] at hop
      have sl := sB_lt (s := s) (j := j) (n := n) ⟨by omega, by omega⟩ ⟨j1, by omega⟩
      have e2 := bitP (s := s) (j := j) ⟨by omega, by omega⟩ ⟨j1, by omega⟩
      refine ok_iload 33 rfl rfl rfl (ok_iload 34 rfl rfl rfl (ok_ishr 35 rfl rfl (ok_iconst 36 rfl rfl (by decide) (ok_iand 37 rfl rfl (ok_if_eq 38 81 rfl rfl rfl (fun h61 => ?_) (fun h61 => ?_))))))
      · refine ok_inc9 50 rfl rfl rfl (by first | omega | (simp [up_if]; omega) | (simp [up_if] at *; omega)) (ok_goto 51 48 rfl rfl rfl ?_)
        exact ih2 _ (j + 1) ⟨by omega, by omega, by omega, by omega, by rw [es, no j (hop.2.mp h61)]; omega⟩ (by omega)
      · obtain ⟨ob, oo⟩ := hop.1.mp h61
        obtain ⟨t1, t2, t3⟩ := term j j1 (by omega) ob oo
        refine ok_lload 39 rfl rfl rfl (ok_aload_n 40 rfl rfl rfl (ok_getR 41 rfl rfl fl_X0_15 rfl rfl (ok_iload 42 rfl rfl rfl (ok_iconst 43 rfl rfl (by decide) (ok_iload 44 rfl rfl rfl (ok_ishl 45 rfl rfl (ok_ior 46 rfl rfl ?_)))))))
        rw [e2]
        refine ok_lald 47 rfl rfl rfl (by omega) (ok_ladd 48 rfl rfl (by first | omega | (simp [up_if]; omega) | (simp [up_if] at *; omega)) (ok_lst7 49 rfl rfl rfl (ok_inc9 50 rfl rfl rfl (by first | omega | (simp [up_if]; omega) | (simp [up_if] at *; omega)) (ok_goto 51 48 rfl rfl rfl ?_))))
        exact ih2 _ (j + 1) ⟨by omega, by omega, by omega, by omega, by rw [es, t1]⟩ (by omega)
end
section
/-! what is read off a table by its choices: the class and the reference -/
theorem t_Ev_permanent {σ : eS} {s : Int} (h : IA σ) : MtL shA M_Ev_permanent [vr 0, vi s] σ (fun σ' z => QA σ σ' ∧ ((¬ tabA σ s ∧ z = -1) ∨ (tabA σ s ∧ pmA (σ (s.toNat + 2) 1) (cT σ (s.toNat + 2)) z))) := by
  refine Mt.of okM_Ev_permanent (Nat.le_of_ble_eq_true rfl) (fun hk hg => ?_)
  refine ok_aload_n 0 rfl rfl rfl (ok_iload_n 1 rfl rfl rfl (ok_callVR (M' := M_Ev_filledSlot) (as := [_]) 2 rfl rfl ml_X11_137 (s_Ev_filledSlot) rfl rfl (Nat.le_of_ble_eq_true rfl) ⟨Nat.le_of_ble_eq_true rfl, Nat.le_of_ble_eq_true rfl⟩ rfl (Nat.le_of_ble_eq_true rfl) (fun σ' z hz => ?_)))
  obtain ⟨hs_, hz⟩ := hz
  rw [hs_]; clear hs_ σ'
  rcases hz with ⟨q, q0⟩ | ⟨q1, q2, q, q3⟩
  · subst q
    refine ok_ast2 3 rfl rfl rfl (ok_aload_n 4 rfl rfl rfl (ok_ifnonnullN 5 rfl rfl (ok_ldc2 6 (-1) rfl rfl kc_X11_238 (by decide) (ok_goto 7 31 rfl rfl rfl (ok_lret 15 rfl rfl rfl ?_)))))
    exact ⟨_, rfl, QA_rf h, Or.inl ⟨q0, rfl⟩⟩
  · subst q
    have ht := sl_tA ⟨q1, q2⟩
    have hT := (h.2.1 _ ht).1
    have n := tA_10 ht
    refine ok_ast2 3 rfl rfl rfl (ok_aload_n 4 rfl rfl rfl (ok_ifnonnull 5 16 rfl rfl rfl (ok_aload_n 8 rfl rfl rfl (ok_getR 9 rfl rfl fl_X11_32 rfl rfl (ok_aload_n 10 rfl rfl rfl (ok_getR 11 rfl rfl fl_X11_133 (sT ht) rfl (ok_aload_n 12 rfl rfl rfl (ok_getI 13 rfl rfl fl_X11_103 (sT ht) rfl (Or.inl rfl) (ok_callVL (M' := M_Ch_multiplyAll) (as := [_, _]) 14 rfl rfl ml_X11_243 (t_Ch_multiplyAll (sC ht) ⟨hT.1, hT.2.1⟩ (by omega) (fun k a b => by have := hT.2.2.2 k a b; omega)) rfl rfl (Nat.le_of_ble_eq_true rfl) ⟨Nat.le_of_ble_eq_true rfl, Nat.le_of_ble_eq_true rfl⟩ rfl (Nat.le_of_ble_eq_true rfl) (fun τ z3 f => ?_))))))))))
    refine ok_lret 15 rfl rfl rfl ?_
    exact ⟨_, rfl, QA_18 h f.1, Or.inr ⟨⟨q1, q2, q3⟩, f.2⟩⟩
theorem t_Mo_permanent {σ : eS} {s : Int} (hB : iB1 σ) : MtL shB M_Mo_permanent [vr 0, vi s] σ (fun σ' z => fr rgU σ σ' ∧ ((¬ tabB σ s ∧ z = -1) ∨ (tabB σ s ∧ pmA (σ 1 s) (cB σ s) z))) := by
  refine Mt.of okM_Mo_permanent (Nat.le_of_ble_eq_true rfl) (fun hk hg => ?_)
  refine ok_aload_n 0 rfl rfl rfl (ok_iload_n 1 rfl rfl rfl (ok_callVI (M' := M_Mo_isTable) (as := [_]) 2 rfl rfl ml_X12_111 (s_Mo_isTable_r) rfl rfl (Nat.le_of_ble_eq_true rfl) ⟨Nat.le_of_ble_eq_true rfl, Nat.le_of_ble_eq_true rfl⟩ rfl (Nat.le_of_ble_eq_true rfl) (fun σ' z1 a1 => ?_)))
  obtain ⟨hs_, a1⟩ := a1
  rw [hs_]; clear hs_ σ'
  refine ok_if_ne 3 12 rfl rfl rfl (fun h5 => ?_) (fun h5 => ?_)
  · have ht := yes1 a1 h5
    obtain ⟨u1, u2, u3⟩ := id ht
    have tn := hB.1 s u1 u2
    obtain ⟨z1, z2, z3, -⟩ := bit2 (n := σ 1 s) ⟨by omega, by omega⟩
    have ew : smW σ s 0 0 = cB σ s := by funext i j; unfold smW; rw [if_pos rfl]
    refine ok_aload_n 6 rfl rfl rfl (ok_iload_n 7 rfl rfl rfl (ok_iconst 8 rfl rfl (by decide) (ok_iconst 9 rfl rfl (by decide) (ok_callVI (M' := M_Mo_isSummed) (as := [_, _, _]) 10 rfl rfl ml_X12_349 (t_Mo_isSummed hB ht) rfl rfl (Nat.le_of_ble_eq_true rfl) ⟨Nat.le_of_ble_eq_true rfl, Nat.le_of_ble_eq_true rfl⟩ rfl (Nat.le_of_ble_eq_true rfl) (fun σ' z hz => ?_)))))
    rw [ew] at hz
    have e1 : σ' 1 s = σ 1 s := hz.1 1 s (by simp [rgU])
    refine ok_if_eq 11 40 rfl rfl rfl (fun h19 => ?_) (fun h19 => ?_)
    · refine ok_ldc2 24 (-2) rfl rfl kc_X12_355 (by decide) (ok_lret 25 rfl rfl rfl ?_)
      refine ⟨_, rfl, hz.1, Or.inr ⟨ht, ?_⟩⟩
      rcases hz.2 with ⟨y1, T, y2, y3, y4⟩ | ⟨y1, y2⟩
      · first | omega | exact Or.inl ⟨rfl, T, y2, y3, y4⟩
      · first | omega | exact Or.inr ⟨(y2 _ (by omega) (by omega)).1, fun k a b => (y2 k a b).2⟩
    · refine ok_aload_n 12 rfl rfl rfl (ok_getR 13 rfl rfl fl_X12_72 rfl rfl (ok_iconst 14 rfl rfl (by decide) (ok_aload_n 15 rfl rfl rfl (ok_getR 16 rfl rfl fl_X12_7 rfl rfl (ok_iload_n 17 rfl rfl rfl (ok_iald 18 rfl rfl rfl (by first | omega | (simp [up_if]; omega) | (simp [up_if] at *; omega)) (ok_ishl 19 rfl rfl ?_)))))))
      rw [e1, z1]
      refine ok_iconst 20 rfl rfl (by decide) (ok_isub 21 rfl rfl (by first | omega | (simp [up_if]; omega) | (simp [up_if] at *; omega)) (ok_lald 22 rfl rfl rfl (by omega) (ok_goto 23 43 rfl rfl rfl (ok_lret 25 rfl rfl rfl ?_))))
      refine ⟨_, rfl, hz.1, Or.inr ⟨ht, ?_⟩⟩
      rcases hz.2 with ⟨y1, T, y2, y3, y4⟩ | ⟨y1, y2⟩
      · first | omega | exact Or.inl ⟨rfl, T, y2, y3, y4⟩
      · first | omega | exact Or.inr ⟨(y2 _ (by omega) (by omega)).1, fun k a b => (y2 k a b).2⟩
  · refine ok_ldc2 4 (-1) rfl rfl kc_X12_219 (by decide) (ok_lret 5 rfl rfl rfl ?_)
    exact ⟨_, rfl, fr.rf, Or.inl ⟨no1 a1 h5, rfl⟩⟩
def wdA (n : Int) (op : Int → Int → Prop) (w : Int → Int → Int) (z : Int) : Prop := ∃ v : Int → Int, v (p2 n - 1) = 9223372036854775807 ∧ (∀ T, 0 ≤ T → T < p2 n - 1 → dpO n 0 op w v T) ∧ z = v 0
theorem wdA_un {n : Int} {op op' : Int → Int → Prop} {w w' : Int → Int → Int} {z z' : Int} (hn : 1 ≤ n ∧ n ≤ 8) (he : ∀ i j, 0 ≤ i → i < n → 0 ≤ j → j < n → (op i j ↔ op' i j)) (hw : ∀ i j, 0 ≤ i → i < n → 0 ≤ j → j < n → w i j = w' i j) (h : wdA n op w z) (h' : wdA n op' w' z') : z = z' := by
  have b := bit2 (n := n) ⟨by omega, hn.2⟩
  obtain ⟨v, a1, a2, a3⟩ := h
  obtain ⟨v', b1, b2, b3⟩ := h'
  rw [a3, b3]
  exact dpO_un (n := n) ⟨by omega, hn.2⟩ he hw (by rw [a1, b1]) a2 b2 0 (by omega) (by omega)
def bsA (n : Int) (op : Int → Int → Prop) (w : Int → Int → Int) (q z : Int) : Prop := ∃ v ch : Int → Int, v (p2 n - 1) = 0 ∧ (∀ T, 0 ≤ T → T < p2 n - 1 → dpO n 1 op w v T) ∧ fstC n (rcG op w v) ch ∧ z = if q = 0 then v 0 else ch (q - 10)
theorem bsA_un {n : Int} {op op' : Int → Int → Prop} {w w' : Int → Int → Int} {q z z' : Int} (hn : 1 ≤ n ∧ n ≤ 8) (hq : q ≠ 0 → 0 ≤ q - 10 ∧ q - 10 < n) (he : ∀ i j, 0 ≤ i → i < n → 0 ≤ j → j < n → (op i j ↔ op' i j)) (hw : ∀ i j, 0 ≤ i → i < n → 0 ≤ j → j < n → w i j = w' i j) (h : bsA n op w q z) (h' : bsA n op' w' q z') : z = z' := by
  have b := bit2 (n := n) ⟨by omega, hn.2⟩
  obtain ⟨v, ch, a1, a2, a3, a4⟩ := h
  obtain ⟨v', ch', b1, b2, b3, b4⟩ := h'
  have ev := dpO_un (n := n) ⟨by omega, hn.2⟩ he hw (by rw [a1, b1]) a2 b2
  rw [a4, b4]
  by_cases c : q = 0
  · rw [if_pos c, if_pos c]; exact ev 0 (by omega) (by omega)
  · rw [if_neg c, if_neg c]
    exact rc_un (n := n) ⟨by omega, hn.2⟩ he hw ev a3 b3 _ (hq c).1 (hq c).2
theorem t_Ev_widest {σ : eS} {s : Int} (h : IA σ) : MtI shA M_Ev_widest [vr 0, vi s] σ (fun σ' z => QA σ σ' ∧ ((¬ tabA σ s ∧ z = -1) ∨ (tabA σ s ∧ wdA (σ (s.toNat + 2) 1) (fun i j => 0 ≤ cT σ (s.toNat + 2) i j) (cT σ (s.toNat + 2)) z))) := by
  refine Mt.of okM_Ev_widest (Nat.le_of_ble_eq_true rfl) (fun hk hg => ?_)
  refine ok_aload_n 0 rfl rfl rfl (ok_iload_n 1 rfl rfl rfl (ok_callVR (M' := M_Ev_filledSlot) (as := [_]) 2 rfl rfl ml_X11_137 (s_Ev_filledSlot) rfl rfl (Nat.le_of_ble_eq_true rfl) ⟨Nat.le_of_ble_eq_true rfl, Nat.le_of_ble_eq_true rfl⟩ rfl (Nat.le_of_ble_eq_true rfl) (fun σ' z hz => ?_)))
  obtain ⟨hs_, hz⟩ := hz
  rw [hs_]; clear hs_ σ'
  rcases hz with ⟨q, q0⟩ | ⟨q1, q2, q, q3⟩
  · subst q
    refine ok_ast2 3 rfl rfl rfl (ok_aload_n 4 rfl rfl rfl (ok_ifnonnullN 5 rfl rfl (ok_iconst 6 rfl rfl (by decide) (ok_goto 7 35 rfl rfl rfl (ok_iret 19 rfl rfl rfl ?_)))))
    exact ⟨_, rfl, QA_rf h, Or.inl ⟨q0, rfl⟩⟩
  · subst q
    have ht := sl_tA ⟨q1, q2⟩
    have hT := (h.2.1 _ ht).1
    have n := tA_10 ht
    have n1 := hT.1
    have b2 := bit2 (n := σ (s.toNat + 2) 1) ⟨hT.1, hT.2.1⟩
    have b24 := b2.2.2.2 (by omega)
    refine ok_ast2 3 rfl rfl rfl (ok_aload_n 4 rfl rfl rfl (ok_ifnonnull 5 14 rfl rfl rfl (ok_aload_n 8 rfl rfl rfl (ok_getR 9 rfl rfl fl_X11_32 rfl rfl (ok_aload_n 10 rfl rfl rfl (ok_getR 11 rfl rfl fl_X11_133 (sT ht) rfl (ok_aload_n 12 rfl rfl rfl (ok_iconst 13 rfl rfl (by decide) (ok_callVL (M' := M_Ta_joinedBy) (as := [_]) 14 rfl rfl ml_X11_119 (t_Ta_joinedBy ht hT) (sT ht) rfl (Nat.le_of_ble_eq_true rfl) ⟨Nat.le_of_ble_eq_true rfl, Nat.le_of_ble_eq_true rfl⟩ rfl (Nat.le_of_ble_eq_true rfl) (fun σ' z2 x2 => ?_))))))))))
    obtain ⟨hs_, x2⟩ := x2
    rw [hs_]; clear hs_ σ'
    refine ok_aload_n 15 rfl rfl rfl (ok_getI 16 rfl rfl fl_X11_103 (sT ht) rfl (Or.inl rfl) (ok_callVL (M' := M_Ch_greatestLeast) (as := [_, _, _]) 17 rfl rfl ml_X11_234 (t_Ch_greatestLeast (sC ht) ⟨hT.1, hT.2.1⟩ x2 (by omega) (fun k a b => by have := hT.2.2.2 k a b; omega)) rfl rfl (Nat.le_of_ble_eq_true rfl) ⟨Nat.le_of_ble_eq_true rfl, Nat.le_of_ble_eq_true rfl⟩ rfl (Nat.le_of_ble_eq_true rfl) (fun τ z3 f => ?_)))
    obtain ⟨f1, f2, f3, f4⟩ := f
    have f5 := (f4 0 (by omega) (by omega)).2
    refine ok_l2i 18 rfl rfl (by omega) (ok_iret 19 rfl rfl rfl ?_)
    exact ⟨_, rfl, QA_18 h f1, Or.inr ⟨⟨q1, q2, q3⟩, fun k => τ 18 k, f3, fun T a b => (f4 T a b).1, f2⟩⟩
theorem wo_wkB {σ : eS} {s : Int} (hB : iB1 σ) (ht : tabB σ s) : ∀ i j, 0 ≤ i → i < σ 1 s → 0 ≤ j → j < σ 1 s → wk (wo σ s (σ 1 s) (σ 1 s * σ 1 s)) i j = cB σ s i j := fun i j a b c d => by
  obtain ⟨u1, u2, u3⟩ := ht
  have tn := (hB.1 s u1 u2).2.1
  exact wo_wk ⟨by omega, tn⟩ rfl ⟨a, b⟩ ⟨c, d⟩
theorem wo_22 (σ : eS) (s : Int) : wo σ s (σ 1 s) (σ 1 s * σ 1 s) 0 22 = σ 1 s := by simp [wo]
theorem t_Mo_widest {σ : eS} {s : Int} (hB : iB1 σ) : MtI shB M_Mo_widest [vr 0, vi s] σ (fun σ' z => fr rgS σ σ' ∧ ((¬ tabB σ s ∧ z = -1) ∨ (tabB σ s ∧ wdA (σ 1 s) (fun i j => 0 ≤ wk (wo σ s (σ 1 s) (σ 1 s * σ 1 s)) i j) (wk (wo σ s (σ 1 s) (σ 1 s * σ 1 s))) z))) := by
  refine Mt.of okM_Mo_widest (Nat.le_of_ble_eq_true rfl) (fun hk hg => ?_)
  refine ok_aload_n 0 rfl rfl rfl (ok_iload_n 1 rfl rfl rfl (ok_callVI (M' := M_Mo_isTable) (as := [_]) 2 rfl rfl ml_X12_111 (s_Mo_isTable_r) rfl rfl (Nat.le_of_ble_eq_true rfl) ⟨Nat.le_of_ble_eq_true rfl, Nat.le_of_ble_eq_true rfl⟩ rfl (Nat.le_of_ble_eq_true rfl) (fun σ' z1 a1 => ?_)))
  obtain ⟨hs_, a1⟩ := a1
  rw [hs_]; clear hs_ σ'
  refine ok_if_ne 3 10 rfl rfl rfl (fun h5 => ?_) (fun h5 => ?_)
  · have ht := yes1 a1 h5
    have f := wo_fr σ s (σ 1 s) (σ 1 s * σ 1 s)
    obtain ⟨w1, w2⟩ := wo_bd hB ht
    have e22 := wo_22 σ s
    have tn := hB.1 s ht.1 ht.2.1
    have t3 := ht.2.2
    have b2 := bit2 (n := σ 1 s) ⟨by omega, by omega⟩
    have b24 := b2.2.2.2 (by omega)
    refine ok_aload_n 6 rfl rfl rfl (ok_iload_n 7 rfl rfl rfl (ok_callVV (M' := M_Mo_worksOn) (as := [_]) 8 rfl rfl ml_X12_294 (s_Mo_worksOn hB ht) rfl rfl (Nat.le_of_ble_eq_true rfl) ⟨Nat.le_of_ble_eq_true rfl, Nat.le_of_ble_eq_true rfl⟩ rfl (Nat.le_of_ble_eq_true rfl) (fun σ' hz => ?_)))
    rw [hz]
    clear hz σ'
    refine ok_aload_n 9 rfl rfl rfl (ok_iconst 10 rfl rfl (by decide) (ok_iconst 11 rfl rfl (by decide) (ok_callVV (M' := M_Mo_laysCan) (as := [_, _]) 12 rfl rfl ml_X12_256 (s_Mo_laysCan w1 w2 (by omega) (Or.inl rfl)) rfl rfl (Nat.le_of_ble_eq_true rfl) ⟨Nat.le_of_ble_eq_true rfl, Nat.le_of_ble_eq_true rfl⟩ rfl (Nat.le_of_ble_eq_true rfl) (fun σ' hz => ?_))))
    rw [e22] at hz
    obtain ⟨f1, f2, f3⟩ := hz
    rw [if_pos rfl] at f2
    have f5 := (f3 0 (by omega) (by omega)).2
    have f6 : σ' 10 0 ≤ 799999992 := by
      rcases (f3 0 (by omega) (by omega)).1.2 with q | ⟨j, a, b, c, d⟩
      · have q1 : σ' 10 0 = -1 := q.1
        omega
      · have d1 : σ' 10 0 = cmbG 0 (wk (wo σ s (σ 1 s) (σ 1 s * σ 1 s)) (pc 0) j) (σ' 10 (sB 0 j)) := d
        unfold cmbG at d1
        rw [if_pos rfl, pc_0] at d1
        have := (w2 0 j (by omega) (by omega) a (by omega)).2
        omega
    refine ok_aload_n 13 rfl rfl rfl (ok_getR 14 rfl rfl fl_X12_42 rfl rfl (ok_iconst 15 rfl rfl (by decide) (ok_lald 16 rfl rfl rfl (by first | omega | (simp [up_if]; omega) | (simp [up_if] at *; omega)) (ok_l2i 17 rfl rfl (by omega) (ok_iret 18 rfl rfl rfl ?_)))))
    exact ⟨_, rfl, f.tr (f1.mono (fun c k q => by simp only [rgS]; omega)), Or.inr ⟨ht, fun k => σ' 10 k, f2, fun T a b => dpO_of (f3 T a b).1, rfl⟩⟩
  · refine ok_iconst 4 rfl rfl (by decide) (ok_iret 5 rfl rfl rfl ?_)
    exact ⟨_, rfl, fr.rf, Or.inl ⟨no1 a1 h5, rfl⟩⟩
def okBs (T : Prop) (n q : Int) : Prop := T ∧ (q ≠ 0 → 0 ≤ q - 10 ∧ q - 10 < n)
theorem t_Ev_best {σ : eS} {s w : Int} (h : IA σ) : MtL shA M_Ev_best [vr 0, vi s, vi w] σ (fun σ' z => QA σ σ' ∧ ((¬ okBs (tabA σ s) (σ (s.toNat + 2) 1) w ∧ z = -1) ∨ (okBs (tabA σ s) (σ (s.toNat + 2) 1) w ∧ bsA (σ (s.toNat + 2) 1) (fun i j => 0 ≤ cT σ (s.toNat + 2) i j) (cT σ (s.toNat + 2)) w z))) := by
  refine Mt.of okM_Ev_best (Nat.le_of_ble_eq_true rfl) (fun hk hg => ?_)
  have hrw : rg w := hk.2.2.1
  refine ok_aload_n 0 rfl rfl rfl (ok_iload_n 1 rfl rfl rfl (ok_callVR (M' := M_Ev_filledSlot) (as := [_]) 2 rfl rfl ml_X11_137 (s_Ev_filledSlot) rfl rfl (Nat.le_of_ble_eq_true rfl) ⟨Nat.le_of_ble_eq_true rfl, Nat.le_of_ble_eq_true rfl⟩ rfl (Nat.le_of_ble_eq_true rfl) (fun σ' z hz => ?_)))
  obtain ⟨hs_, hz⟩ := hz
  rw [hs_]; clear hs_ σ'
  rcases hz with ⟨q, q0⟩ | ⟨q1, q2, q, q3⟩
  · subst q
    refine ok_ast3 3 rfl rfl rfl (ok_aload_n 4 rfl rfl rfl (ok_ifnullN 5 31 rfl rfl rfl (ok_ldc2 17 (-1) rfl rfl kc_X11_238 (by decide) (ok_lret 18 rfl rfl rfl ?_))))
    exact ⟨_, rfl, QA_rf h, Or.inl ⟨fun c => q0 c.1, rfl⟩⟩
  · subst q
    have ht := sl_tA ⟨q1, q2⟩
    have hT := (h.2.1 _ ht).1
    have nt := tA_10 ht
    have m1 := hT.1
    have m2 := hT.2.1
    have b2 := bit2 (n := σ (s.toNat + 2) 1) ⟨hT.1, hT.2.1⟩
    have tail : (w ≠ 0 → 0 ≤ w - 10 ∧ w - 10 < σ (s.toNat + 2) 1) → Ok shA M_Ev_best 35 [some (vr 0), some (vi s), some (vi w), some (vr (s.toNat + 2)), none, none] [] σ (fun σ' v => ∃ z, v = some (vl z) ∧ QA σ σ' ∧ ((¬ okBs (tabA σ s) (σ (s.toNat + 2) 1) w ∧ z = -1) ∨ (okBs (tabA σ s) (σ (s.toNat + 2) 1) w ∧ bsA (σ (s.toNat + 2) 1) (fun i j => 0 ≤ cT σ (s.toNat + 2) i j) (cT σ (s.toNat + 2)) w z))) := by
      intro hw
      refine ok_aload_n 19 rfl rfl rfl (ok_getR 20 rfl rfl fl_X11_32 rfl rfl (ok_aload_n 21 rfl rfl rfl (ok_getR 22 rfl rfl fl_X11_133 (sT ht) rfl (ok_aload_n 23 rfl rfl rfl (ok_iconst 24 rfl rfl (by decide) (ok_callVL (M' := M_Ta_joinedBy) (as := [_]) 25 rfl rfl ml_X11_119 (t_Ta_joinedBy ht hT) (sT ht) rfl (Nat.le_of_ble_eq_true rfl) ⟨Nat.le_of_ble_eq_true rfl, Nat.le_of_ble_eq_true rfl⟩ rfl (Nat.le_of_ble_eq_true rfl) (fun σ' z2 x2 => ?_)))))))
      obtain ⟨hs_, x2⟩ := x2
      rw [hs_]; clear hs_ σ'
      refine ok_aload_n 26 rfl rfl rfl (ok_getI 27 rfl rfl fl_X11_103 (sT ht) rfl (Or.inl rfl) (ok_callVL (M' := M_Ch_findRichest) (as := [_, _, _]) 28 rfl rfl ml_X11_240 (t_Ch_findRichest (sC ht) h.2.2.1 ⟨m1, m2⟩ x2 (by omega) (by omega) (fun k a b => by have := hT.2.2.2 k a b; omega)) rfl rfl (Nat.le_of_ble_eq_true rfl) ⟨Nat.le_of_ble_eq_true rfl, Nat.le_of_ble_eq_true rfl⟩ rfl (Nat.le_of_ble_eq_true rfl) (fun τ z3 f => ?_)))
      obtain ⟨f1, f2, f3, f4, f5, f6⟩ := f
      have hv0 : 0 ≤ τ 18 0 := (dp_ge (l := 0) (w := cT σ (s.toNat + 2)) (sums := 1) (v := fun k => τ 18 k) ⟨by omega, m2⟩ (fun i j a b c d => (cT_bd hT ⟨a, by omega⟩ ⟨c, by omega⟩).1) (by rw [if_neg (by decide)]; exact f4) (fun T a b => (f5 T a b).1) (σ (s.toNat + 2) 1).toNat 0 (by omega) (by omega) (by simp [pc]) (cpl_of (f := fun i => i) (by omega) ⟨fun i a b => ⟨a, b⟩, fun i k a b c => by show i ≠ k; omega⟩ (fun i a b => (cT_bd hT ⟨a, by omega⟩ ⟨a, by omega⟩).1))).1
      have fq : fr rgCh σ τ := f1.mono (fun c k q => by simp only [rgFr, rgCh] at q ⊢; omega)
      refine ok_lst4 29 rfl rfl rfl (ok_iload_n 30 rfl rfl rfl (ok_if_ne 31 66 rfl rfl rfl (fun h58 => ?_) (fun h58 => ?_)))
      · refine ok_aload_n 34 rfl rfl rfl (ok_getR 35 rfl rfl fl_X11_32 rfl rfl (ok_getR 36 rfl rfl fl_X11_227 rfl rfl (ok_iload_n 37 rfl rfl rfl (ok_bipush 38 rfl rfl (by decide) (by decide) (ok_isub 39 rfl rfl (by first | omega | (simp [up_if]; omega) | (simp [up_if] at *; omega)) (ok_iald 40 rfl rfl rfl (by first | omega | (simp [up_if]; omega) | (simp [up_if] at *; omega)) (ok_i2l 41 rfl rfl (ok_lret 42 rfl rfl rfl ?_))))))))
        refine ⟨_, rfl, QA_C h fq f2 (mkS_fr (by decide) f1 (by simp [rgFr]) (fun k => by simp [rgFr])), Or.inr ⟨⟨⟨q1, q2, q3⟩, hw⟩, fun k => τ 18 k, fun i => τ 17 i, f4, fun T a b => (f5 T a b).1, f6 (by omega), ?_⟩⟩
        first | (rw [if_pos (by omega)]; exact f3) | rw [if_neg (by omega)]
      · refine ok_lload 32 rfl rfl rfl (ok_goto 33 79 rfl rfl rfl (ok_lret 42 rfl rfl rfl ?_))
        refine ⟨_, rfl, QA_C h fq f2 (mkS_fr (by decide) f1 (by simp [rgFr]) (fun k => by simp [rgFr])), Or.inr ⟨⟨⟨q1, q2, q3⟩, hw⟩, fun k => τ 18 k, fun i => τ 17 i, f4, fun T a b => (f5 T a b).1, f6 (by omega), ?_⟩⟩
        first | (rw [if_pos (by omega)]; exact f3) | rw [if_neg (by omega)]
    refine ok_ast3 3 rfl rfl rfl (ok_aload_n 4 rfl rfl rfl (ok_ifnull 5 rfl rfl (ok_iload_n 6 rfl rfl rfl (ok_if_eq 7 35 rfl rfl rfl (fun h11 => ?_) (fun h11 => ?_)))))
    · exact tail (by omega)
    · refine ok_iload_n 8 rfl rfl rfl (ok_bipush 9 rfl rfl (by decide) (by decide) (ok_icmp_lt 10 31 rfl rfl rfl (fun h17 => ?_) (fun h17 => ?_)))
      · refine ok_ldc2 17 (-1) rfl rfl kc_X11_238 (by decide) (ok_lret 18 rfl rfl rfl ?_)
        exact ⟨_, rfl, QA_rf h, Or.inl ⟨fun c => by have := c.2 (by omega); omega, rfl⟩⟩
      · refine ok_aload_n 11 rfl rfl rfl (ok_iload_n 12 rfl rfl rfl (ok_bipush 13 rfl rfl (by decide) (by decide) (ok_isub 14 rfl rfl (by first | omega | (simp [up_if]; omega) | (simp [up_if] at *; omega)) (ok_callVI (M' := M_Ta_has) (as := [_]) 15 rfl rfl ml_X11_129 (s_Ta_has ht) (sT ht) rfl (Nat.le_of_ble_eq_true rfl) ⟨Nat.le_of_ble_eq_true rfl, Nat.le_of_ble_eq_true rfl⟩ rfl (Nat.le_of_ble_eq_true rfl) (fun σ' z1 x1 => ?_)))))
        obtain ⟨hs_, x1⟩ := x1
        rw [hs_]; clear hs_ σ'
        refine ok_if_ne 16 35 rfl rfl rfl (fun h28 => ?_) (fun h28 => ?_)
        · exact tail (by omega)
        · refine ok_ldc2 17 (-1) rfl rfl kc_X11_238 (by decide) (ok_lret 18 rfl rfl rfl ?_)
          exact ⟨_, rfl, QA_rf h, Or.inl ⟨fun c => by have := c.2 (by omega); omega, rfl⟩⟩
theorem t_Mo_best {σ : eS} {s w : Int} (hB : iB1 σ) : MtL shB M_Mo_best [vr 0, vi s, vi w] σ (fun σ' z => fr rgS σ σ' ∧ ((¬ okBs (tabB σ s) (σ 1 s) w ∧ z = -1) ∨ (okBs (tabB σ s) (σ 1 s) w ∧ bsA (σ 1 s) (fun i j => 0 ≤ wk (wo σ s (σ 1 s) (σ 1 s * σ 1 s)) i j) (wk (wo σ s (σ 1 s) (σ 1 s * σ 1 s))) w z))) := by
  refine Mt.of okM_Mo_best (Nat.le_of_ble_eq_true rfl) (fun hk hg => ?_)
  refine ok_aload_n 0 rfl rfl rfl (ok_iload_n 1 rfl rfl rfl (ok_callVI (M' := M_Mo_isTable) (as := [_]) 2 rfl rfl ml_X12_111 (s_Mo_isTable_r) rfl rfl (Nat.le_of_ble_eq_true rfl) ⟨Nat.le_of_ble_eq_true rfl, Nat.le_of_ble_eq_true rfl⟩ rfl (Nat.le_of_ble_eq_true rfl) (fun σ' z1 a1 => ?_)))
  obtain ⟨hs_, a1⟩ := a1
  rw [hs_]; clear hs_ σ'
  refine ok_if_eq 3 33 rfl rfl rfl (fun h5 => ?_) (fun h5 => ?_)
  · refine ok_ldc2 18 (-1) rfl rfl kc_X12_219 (by decide) (ok_lret 19 rfl rfl rfl ?_)
    exact ⟨_, rfl, fr.rf, Or.inl ⟨fun c => no1 a1 h5 c.1, rfl⟩⟩
  · obtain ⟨u1, u2, u3⟩ := yes1 a1 h5
    have tn := hB.1 s u1 u2
    have f := wo_fr σ s (σ 1 s) (σ 1 s * σ 1 s)
    obtain ⟨w1, w2⟩ := wo_bd hB ⟨u1, u2, u3⟩
    have e22 := wo_22 σ s
    have hc : cpl (wo σ s (σ 1 s) (σ 1 s * σ 1 s) 0 22) (fun i j => 0 ≤ wk (wo σ s (σ 1 s) (σ 1 s * σ 1 s)) i j) (wo σ s (σ 1 s) (σ 1 s * σ 1 s) 0 22).toNat 0 := cpl_of (f := fun i => i) (by have := w1.1; omega) ⟨fun i a b => ⟨a, b⟩, fun i k a b c => by show i ≠ k; omega⟩ (fun i a b => (w2 i i a b a b).1)
    refine ok_iload_n 4 rfl rfl rfl (ok_if_eq 5 37 rfl rfl rfl (fun h9 => ?_) (fun h9 => ?_))
    · refine ok_aload_n 20 rfl rfl rfl (ok_iload_n 21 rfl rfl rfl (ok_callVV (M' := M_Mo_worksOn) (as := [_]) 22 rfl rfl ml_X12_294 (s_Mo_worksOn hB ⟨u1, u2, u3⟩) rfl rfl (Nat.le_of_ble_eq_true rfl) ⟨Nat.le_of_ble_eq_true rfl, Nat.le_of_ble_eq_true rfl⟩ rfl (Nat.le_of_ble_eq_true rfl) (fun σ' hz => ?_)))
      rw [hz]
      clear hz σ'
      refine ok_aload_n 23 rfl rfl rfl (ok_iconst 24 rfl rfl (by decide) (ok_callVL (M' := M_Mo_chooseGreatest) (as := [_]) 25 rfl rfl ml_X12_263 (t_Mo_chooseGreatest w1 w2 (by omega) hc) rfl rfl (Nat.le_of_ble_eq_true rfl) ⟨Nat.le_of_ble_eq_true rfl, Nat.le_of_ble_eq_true rfl⟩ rfl (Nat.le_of_ble_eq_true rfl) (fun σ' z hz => ?_)))
      rw [e22] at hz
      obtain ⟨g1, g2, g3, g4, g5, g6⟩ := hz
      have g := f.tr (g1.mono (fun c k q => by simp only [rgS]; omega))
      refine ok_lst3 26 rfl rfl rfl (ok_iload_n 27 rfl rfl rfl (ok_if_ne 28 56 rfl rfl rfl (fun h49 => ?_) (fun h49 => ?_)))
      · refine ok_aload_n 31 rfl rfl rfl (ok_getR 32 rfl rfl fl_X12_45 rfl rfl (ok_iload_n 33 rfl rfl rfl (ok_bipush 34 rfl rfl (by decide) (by decide) (ok_isub 35 rfl rfl (by first | omega | (simp [up_if]; omega) | (simp [up_if] at *; omega)) (ok_iald 36 rfl rfl rfl (by first | omega | (have := yes1 a2 h30; omega)) (ok_i2l 37 rfl rfl (ok_lret 38 rfl rfl rfl ?_)))))))
        refine ⟨_, rfl, g, Or.inr ⟨⟨⟨u1, u2, u3⟩, fun c => ?_⟩, fun k => σ' 10 k, fun i => σ' 11 i, g4, g5, g6, ?_⟩⟩
        · first | omega | (have := yes1 a2 h30; omega)
        · first | (rw [if_pos (by omega)]; exact g2) | rw [if_neg (by omega)]
      · refine ok_lload_n 29 rfl rfl rfl (ok_goto 30 66 rfl rfl rfl (ok_lret 38 rfl rfl rfl ?_))
        refine ⟨_, rfl, g, Or.inr ⟨⟨⟨u1, u2, u3⟩, fun c => ?_⟩, fun k => σ' 10 k, fun i => σ' 11 i, g4, g5, g6, ?_⟩⟩
        · first | omega | (have := yes1 a2 h30; omega)
        · first | (rw [if_pos (by omega)]; exact g2) | rw [if_neg (by omega)]
    · refine ok_iload_n 6 rfl rfl rfl (ok_i2l 7 rfl rfl (ok_ldc2 8 (10) rfl rfl kc_X12_353 (by decide) (ok_bipush 9 rfl rfl (by decide) (by decide) (ok_aload_n 10 rfl rfl rfl (ok_getR 11 rfl rfl fl_X12_7 rfl rfl (ok_iload_n 12 rfl rfl rfl (ok_iald 13 rfl rfl rfl (by first | omega | (simp [up_if]; omega) | (simp [up_if] at *; omega)) (ok_iadd 14 rfl rfl (by first | omega | (simp [up_if]; omega) | (simp [up_if] at *; omega)) (ok_i2l 15 rfl rfl (ok_callSI (M' := M_Mo_isIn) (as := [_, _, _]) 16 rfl rfl ml_X12_99 (s_Mo_isIn_r) ⟨Nat.le_of_ble_eq_true rfl, Nat.le_of_ble_eq_true rfl⟩ rfl (Nat.le_of_ble_eq_true rfl) (fun σ' z2 a2 => ?_)))))))))))
      obtain ⟨hs_, a2⟩ := a2
      rw [hs_]; clear hs_ σ'
      refine ok_if_ne 17 37 rfl rfl rfl (fun h30 => ?_) (fun h30 => ?_)
      · refine ok_aload_n 20 rfl rfl rfl (ok_iload_n 21 rfl rfl rfl (ok_callVV (M' := M_Mo_worksOn) (as := [_]) 22 rfl rfl ml_X12_294 (s_Mo_worksOn hB ⟨u1, u2, u3⟩) rfl rfl (Nat.le_of_ble_eq_true rfl) ⟨Nat.le_of_ble_eq_true rfl, Nat.le_of_ble_eq_true rfl⟩ rfl (Nat.le_of_ble_eq_true rfl) (fun σ' hz => ?_)))
        rw [hz]
        clear hz σ'
        refine ok_aload_n 23 rfl rfl rfl (ok_iconst 24 rfl rfl (by decide) (ok_callVL (M' := M_Mo_chooseGreatest) (as := [_]) 25 rfl rfl ml_X12_263 (t_Mo_chooseGreatest w1 w2 (by omega) hc) rfl rfl (Nat.le_of_ble_eq_true rfl) ⟨Nat.le_of_ble_eq_true rfl, Nat.le_of_ble_eq_true rfl⟩ rfl (Nat.le_of_ble_eq_true rfl) (fun σ' z hz => ?_)))
        rw [e22] at hz
        obtain ⟨g1, g2, g3, g4, g5, g6⟩ := hz
        have g := f.tr (g1.mono (fun c k q => by simp only [rgS]; omega))
        refine ok_lst3 26 rfl rfl rfl (ok_iload_n 27 rfl rfl rfl (ok_if_ne 28 56 rfl rfl rfl (fun h49 => ?_) (fun h49 => ?_)))
        · refine ok_aload_n 31 rfl rfl rfl (ok_getR 32 rfl rfl fl_X12_45 rfl rfl (ok_iload_n 33 rfl rfl rfl (ok_bipush 34 rfl rfl (by decide) (by decide) (ok_isub 35 rfl rfl (by first | omega | (simp [up_if]; omega) | (simp [up_if] at *; omega)) (ok_iald 36 rfl rfl rfl (by first | omega | (have := yes1 a2 h30; omega)) (ok_i2l 37 rfl rfl (ok_lret 38 rfl rfl rfl ?_)))))))
          refine ⟨_, rfl, g, Or.inr ⟨⟨⟨u1, u2, u3⟩, fun c => ?_⟩, fun k => σ' 10 k, fun i => σ' 11 i, g4, g5, g6, ?_⟩⟩
          · first | omega | (have := yes1 a2 h30; omega)
          · first | (rw [if_pos (by omega)]; exact g2) | rw [if_neg (by omega)]
        · refine ok_lload_n 29 rfl rfl rfl (ok_goto 30 66 rfl rfl rfl (ok_lret 38 rfl rfl rfl ?_))
          refine ⟨_, rfl, g, Or.inr ⟨⟨⟨u1, u2, u3⟩, fun c => ?_⟩, fun k => σ' 10 k, fun i => σ' 11 i, g4, g5, g6, ?_⟩⟩
          · first | omega | (have := yes1 a2 h30; omega)
          · first | (rw [if_pos (by omega)]; exact g2) | rw [if_neg (by omega)]
      · refine ok_ldc2 18 (-1) rfl rfl kc_X12_219 (by decide) (ok_lret 19 rfl rfl rfl ?_)
        exact ⟨_, rfl, fr.rf, Or.inl ⟨fun c => no1 a2 h30 (by have := c.2 (by omega); omega), rfl⟩⟩
noncomputable def wyV (n : Int) (op : Int → Int → Prop) : Int := PMv n (fun i j => @ite Int (op i j) (Classical.propDecidable _) 1 0) (p2 n - 1)
theorem w01_of (op : Int → Int → Prop) : w01 op (fun i j => @ite Int (op i j) (Classical.propDecidable _) 1 0) := fun i j => by
  by_cases q : op i j
  · exact Or.inl ⟨q, if_pos q⟩
  · exact Or.inr ⟨q, if_neg q⟩
def okW (T : Prop) (l : Int) : Prop := T ∧ isL l
theorem t_Ev_ways {σ : eS} {s m : Int} (h : IA σ) : MtI shA M_Ev_ways [vr 0, vi s, vi m] σ (fun σ' z => QA σ σ' ∧ ((¬ okW (tabA σ s) m ∧ z = -1) ∨ (okW (tabA σ s) m ∧ z = wyV (σ (s.toNat + 2) 1) (fun i j => m ≤ cT σ (s.toNat + 2) i j)))) := by
  refine Mt.of okM_Ev_ways (Nat.le_of_ble_eq_true rfl) (fun hk hg => ?_)
  refine ok_aload_n 0 rfl rfl rfl (ok_iload_n 1 rfl rfl rfl (ok_callVR (M' := M_Ev_filledSlot) (as := [_]) 2 rfl rfl ml_X11_137 (s_Ev_filledSlot) rfl rfl (Nat.le_of_ble_eq_true rfl) ⟨Nat.le_of_ble_eq_true rfl, Nat.le_of_ble_eq_true rfl⟩ rfl (Nat.le_of_ble_eq_true rfl) (fun σ' z hz => ?_)))
  obtain ⟨hs_, hz⟩ := hz
  rw [hs_]; clear hs_ σ'
  rcases hz with ⟨q, q0⟩ | ⟨q1, q2, q, q3⟩
  · subst q
    refine ok_ast3 3 rfl rfl rfl (ok_aload_n 4 rfl rfl rfl (ok_ifnullN 5 17 rfl rfl rfl (ok_iconst 9 rfl rfl (by decide) (ok_iret 10 rfl rfl rfl ?_))))
    exact ⟨_, rfl, QA_rf h, Or.inl ⟨fun c => q0 c.1, rfl⟩⟩
  · subst q
    have ht := sl_tA ⟨q1, q2⟩
    have hT := (h.2.1 _ ht).1
    refine ok_ast3 3 rfl rfl rfl (ok_aload_n 4 rfl rfl rfl (ok_ifnull 5 rfl rfl (ok_iload_n 6 rfl rfl rfl (ok_callSI (M' := M_Ev_isCell) (as := [_]) 7 rfl rfl ml_X11_208 (s_Ev_isCell) ⟨Nat.le_of_ble_eq_true rfl, Nat.le_of_ble_eq_true rfl⟩ rfl (Nat.le_of_ble_eq_true rfl) (fun σ' z0 x0 => ?_)))))
    obtain ⟨hs_, x0⟩ := x0
    rw [hs_]; clear hs_ σ'
    refine ok_if_ne 8 19 rfl rfl rfl (fun h14 => ?_) (fun h14 => ?_)
    · refine ok_aload_n 11 rfl rfl rfl (ok_getR 12 rfl rfl fl_X11_32 rfl rfl (ok_aload_n 13 rfl rfl rfl (ok_iload_n 14 rfl rfl rfl (ok_callVL (M' := M_Ta_joinedBy) (as := [_]) 15 rfl rfl ml_X11_119 (t_Ta_joinedBy ht hT) (sT ht) rfl (Nat.le_of_ble_eq_true rfl) ⟨Nat.le_of_ble_eq_true rfl, Nat.le_of_ble_eq_true rfl⟩ rfl (Nat.le_of_ble_eq_true rfl) (fun σ' z2 x2 => ?_)))))
      obtain ⟨hs_, x2⟩ := x2
      rw [hs_]; clear hs_ σ'
      refine ok_aload_n 16 rfl rfl rfl (ok_getI 17 rfl rfl fl_X11_103 (sT ht) rfl (Or.inl rfl) (ok_callVL (M' := M_Ch_countAll) (as := [_, _]) 18 rfl rfl ml_X11_230 (t_Ch_countAll ⟨hT.1, hT.2.1⟩ x2 (w01_of _)) rfl rfl (Nat.le_of_ble_eq_true rfl) ⟨Nat.le_of_ble_eq_true rfl, Nat.le_of_ble_eq_true rfl⟩ rfl (Nat.le_of_ble_eq_true rfl) (fun τ z3 f => ?_)))
      obtain ⟨f1, f2, f3, f4⟩ := f
      refine ok_l2i 19 rfl rfl (by omega) (ok_iret 20 rfl rfl rfl ?_)
      refine ⟨_, rfl, QA_18 h f1, Or.inr ⟨⟨⟨q1, q2, q3⟩, by unfold isL; omega⟩, ?_⟩⟩
      rw [f2, CA_PM ⟨hT.1, hT.2.1⟩]; rfl
    · refine ok_iconst 9 rfl rfl (by decide) (ok_iret 10 rfl rfl rfl ?_)
      exact ⟨_, rfl, QA_rf h, Or.inl ⟨fun c => by have c2 := c.2; unfold isL at c2; omega, rfl⟩⟩
theorem PMk_bd {n : Nat} {w : Int → Int → Int} (hn : n ≤ 8) (hw : ∀ i j : Int, 0 ≤ i → i < n → 0 ≤ j → j < n → 0 ≤ w i j ∧ w i j ≤ 1) : ∀ (k : Nat) (s : Int), k ≤ n → 0 ≤ PMk n w k s ∧ PMk n w k s ≤ e8 k
  | 0, s, _ => by show (0 : Int) ≤ 1 ∧ (1 : Int) ≤ 1; decide
  | k + 1, s, h => by
    have eb := (e8_bd k (by omega)).1
    rw [PMk]
    have := sm_bd (f := fun j => if bt s j = true then w (k : Int) j * PMk n w k (ixor s (ishl 1 j)) else 0) (B := e8 k) (by omega) (n := n) (fun j a b => by
      try dsimp only
      split
      · have x := hw k j (by omega) (by omega) a b
        have y := PMk_bd hn hw k (ixor s (ishl 1 j)) (by omega)
        refine ⟨Int.mul_nonneg x.1 y.1, ?_⟩
        rcases (by omega : w k j = 0 ∨ w k j = 1) with q | q
        · rw [q, Int.zero_mul]; omega
        · rw [q, Int.one_mul]; exact y.2
      · omega)
    refine ⟨this.1, Int.le_trans this.2 ?_⟩
    show e8 k * (n : Int) ≤ 8 * e8 k
    rw [Int.mul_comm]
    exact Int.mul_le_mul_of_nonneg_right (by omega) (by omega)
theorem t_Mo_ways {σ : eS} {s l : Int} (hB : iB1 σ) : MtI shB M_Mo_ways [vr 0, vi s, vi l] σ (fun σ' z => fr rgU σ σ' ∧ ((¬ okW (tabB σ s) l ∧ z = -1) ∨ (okW (tabB σ s) l ∧ z = wyV (σ 1 s) (fun i j => l ≤ cB σ s i j)))) := by
  refine Mt.of okM_Mo_ways (Nat.le_of_ble_eq_true rfl) (fun hk hg => ?_)
  refine ok_aload_n 0 rfl rfl rfl (ok_iload_n 1 rfl rfl rfl (ok_callVI (M' := M_Mo_isTable) (as := [_]) 2 rfl rfl ml_X12_111 (s_Mo_isTable_r) rfl rfl (Nat.le_of_ble_eq_true rfl) ⟨Nat.le_of_ble_eq_true rfl, Nat.le_of_ble_eq_true rfl⟩ rfl (Nat.le_of_ble_eq_true rfl) (fun σ' z1 a1 => ?_)))
  obtain ⟨hs_, a1⟩ := a1
  rw [hs_]; clear hs_ σ'
  refine ok_if_eq 3 15 rfl rfl rfl (fun h5 => ?_) (fun h5 => ?_)
  · refine ok_iconst 7 rfl rfl (by decide) (ok_iret 8 rfl rfl rfl ?_)
    exact ⟨_, rfl, fr.rf, Or.inl ⟨fun c => no1 a1 h5 c.1, rfl⟩⟩
  · refine ok_iload_n 4 rfl rfl rfl (ok_callSI (M' := M_Mo_isLeast) (as := [_]) 5 rfl rfl ml_X12_343 (s_Mo_isLeast) ⟨Nat.le_of_ble_eq_true rfl, Nat.le_of_ble_eq_true rfl⟩ rfl (Nat.le_of_ble_eq_true rfl) (fun σ' z2 a2 => ?_))
    obtain ⟨hs_, a2⟩ := a2
    rw [hs_]; clear hs_ σ'
    refine ok_if_ne 6 17 rfl rfl rfl (fun h12 => ?_) (fun h12 => ?_)
    · have ht := yes1 a1 h5
      have hl : isL l := yes1 a2 h12
      obtain ⟨u1, u2, u3⟩ := id ht
      have tn := hB.1 s u1 u2
      have hn : 0 ≤ σ 1 s ∧ σ 1 s ≤ 8 := ⟨by omega, by omega⟩
      obtain ⟨z1, z2, z3, -⟩ := bit2 (n := σ 1 s) hn
      have pb : ∀ T, 0 ≤ T → T < p2 (σ 1 s) → 0 ≤ PMv (σ 1 s) (smW σ s l 1) T ∧ PMv (σ 1 s) (smW σ s l 1) T ≤ 16777216 := fun T a b => by
        have p := pc_bd hn ⟨a, b⟩
        have x := PMk_bd (n := (σ 1 s).toNat) (w := smW σ s l 1) (by omega) (fun i j _ _ _ _ => by unfold smW; rw [if_neg (by decide)]; split <;> omega) (pc T).toNat T (by omega)
        have y := e8_bd (pc T).toNat (by omega)
        unfold PMv
        omega
      have ev : PMv (σ 1 s) (smW σ s l 1) (p2 (σ 1 s) - 1) = wyV (σ 1 s) (fun i j => l ≤ cB σ s i j) := by
        unfold wyV
        refine PMv_cg hn (fun i j _ _ _ _ => ?_) ⟨by omega, by omega⟩
        unfold smW
        rw [if_neg (by decide)]
        by_cases q : l ≤ cB σ s i j
        · rw [if_pos q, if_pos q]
        · rw [if_neg q, if_neg q]
      refine ok_aload_n 9 rfl rfl rfl (ok_iload_n 10 rfl rfl rfl (ok_iload_n 11 rfl rfl rfl (ok_iconst 12 rfl rfl (by decide) (ok_callVI (M' := M_Mo_isSummed) (as := [_, _, _]) 13 rfl rfl ml_X12_349 (t_Mo_isSummed hB ht) rfl rfl (Nat.le_of_ble_eq_true rfl) ⟨Nat.le_of_ble_eq_true rfl, Nat.le_of_ble_eq_true rfl⟩ rfl (Nat.le_of_ble_eq_true rfl) (fun σ' z hz => ?_)))))
      have e1 : σ' 1 s = σ 1 s := hz.1 1 s (by simp [rgU])
      have hv : ∀ T, 0 ≤ T → T < p2 (σ 1 s) → σ' 20 T = PMv (σ 1 s) (smW σ s l 1) T := by
        rcases hz.2 with ⟨y1, T, y2, y3, y4⟩ | ⟨y1, y2⟩
        · have := (pb T (by omega) y3).2; omega
        · exact fun T a b => (y2 T a b).1
      have hf := hv (p2 (σ 1 s) - 1) (by omega) (by omega)
      have hb := pb (p2 (σ 1 s) - 1) (by omega) (by omega)
      refine ok_pop 14 rfl rfl rfl (ok_aload_n 15 rfl rfl rfl (ok_getR 16 rfl rfl fl_X12_72 rfl rfl (ok_iconst 17 rfl rfl (by decide) (ok_aload_n 18 rfl rfl rfl (ok_getR 19 rfl rfl fl_X12_7 rfl rfl (ok_iload_n 20 rfl rfl rfl (ok_iald 21 rfl rfl rfl (by first | omega | (simp [up_if]; omega) | (simp [up_if] at *; omega)) (ok_ishl 22 rfl rfl ?_))))))))
      rw [e1, z1]
      refine ok_iconst 23 rfl rfl (by decide) (ok_isub 24 rfl rfl (by first | omega | (simp [up_if]; omega) | (simp [up_if] at *; omega)) (ok_lald 25 rfl rfl rfl (by omega) (ok_l2i 26 rfl rfl (by omega) (ok_iret 27 rfl rfl rfl ?_))))
      exact ⟨_, rfl, hz.1, Or.inr ⟨⟨ht, hl⟩, by rw [hf, ev]⟩⟩
    · refine ok_iconst 7 rfl rfl (by decide) (ok_iret 8 rfl rfl rfl ?_)
      exact ⟨_, rfl, fr.rf, Or.inl ⟨fun c => no1 a2 h12 c.2, rfl⟩⟩
end
section
/-! PARTS by the four rules, purely: the choice, one step, and the chain of steps; all of it unique -/
def ag (n : Int) (W W' : Int → Int → Int) : Prop := ∀ i j, 0 ≤ i → i < n → 0 ≤ j → j < n → W i j = W' i j
theorem ag_rf (n : Int) (W : Int → Int → Int) : ag n W W := fun _ _ _ _ _ _ => rfl
theorem ag.sy {n : Int} {W W' : Int → Int → Int} (h : ag n W W') : ag n W' W := fun i j a b c d => (h i j a b c d).symm
theorem ag.tr {n : Int} {W W' W2 : Int → Int → Int} (h : ag n W W') (g : ag n W' W2) : ag n W W2 := fun i j a b c d => (h i j a b c d).trans (g i j a b c d)
theorem fst_pc {n : Int} {good : Int → Int → Prop} {ch : Int → Int} (hn : 0 ≤ n ∧ n ≤ 8) (hb : ∀ T j, good T j → bt T j = false) (h : fstC n good ch) {i : Int} (a : 0 ≤ i) (b : i < n) : 0 ≤ cs ch i.toNat ∧ cs ch i.toNat < p2 n ∧ pc (cs ch i.toNat) = i := by
  have x := cs_in (n := n) (ch := ch) hn i.toNat (by omega) (fun k x y => ⟨(h k x (by omega)).1, (h k x (by omega)).2.1, hb _ _ (h k x (by omega)).2.2.1⟩)
  rw [Int.toNat_of_nonneg a] at x
  exact x
theorem lex_cg {n : Int} {op op' : Int → Int → Prop} {ch : Int → Int} (hn : 0 ≤ n ∧ n ≤ 8) (e : ∀ i j, 0 ≤ i → i < n → 0 ≤ j → j < n → (op i j ↔ op' i j)) (h : fstC n (okJ n op) ch) : fstC n (okJ n op') ch := fun i a b => by
  obtain ⟨c1, c2, c3, c4⟩ := h i a b
  have p := fst_pc hn (fun T j q => q.1) h a b
  exact ⟨c1, c2, (okJ_cg e ⟨by omega, by omega⟩ ⟨c1, c2⟩).mp c3, fun j x y q => c4 j x y ((okJ_cg e ⟨by omega, by omega⟩ ⟨x, by omega⟩).mpr q)⟩
theorem fst_cc {n : Int} {good : Int → Int → Prop} {ch ch' : Int → Int} (e : ∀ i, 0 ≤ i → i < n → ch' i = ch i) (h : fstC n good ch) : fstC n good ch' := fun i a b => by
  have c : cs ch' i.toNat = cs ch i.toNat := cs_cg (fun k x y => e k x (by omega))
  rw [c, e i a b]
  exact h i a b
theorem fst_perm {n : Int} {good : Int → Int → Prop} {ch : Int → Int} (hb : ∀ T j, good T j → bt T j = false) (h : fstC n good ch) : perm n ch := ⟨fun i a b => ⟨(h i a b).1, (h i a b).2.1⟩, fun i k a b c e => by
  have g := hb _ _ (h k (by omega) c).2.2.1
  have x := (bt_cs (f := ch) (k := k.toNat) (fun i p q => (h i p (by omega)).1) (c := ch k) (h k (by omega) c).1).mpr ⟨i, a, by omega, e⟩
  rw [g] at x
  cases x⟩
theorem fst_op {n : Int} {good op : Int → Int → Prop} {ch : Int → Int} (hn : 0 ≤ n ∧ n ≤ 8) (hb : ∀ T j, good T j → bt T j = false) (ho : ∀ T j, good T j → op (pc T) j) (h : fstC n good ch) : ∀ i, 0 ≤ i → i < n → op i (ch i) := fun i a b => by
  have x := ho _ _ (h i a b).2.2.1
  rw [(fst_pc hn hb h a b).2.2] at x
  exact x
/-- the first of the least cells above 0 -/
def lstP (n : Int) (W : Int → Int → Int) (a b : Int) : Prop := (0 ≤ a ∧ a < n) ∧ (0 ≤ b ∧ b < n) ∧ 1 ≤ W a b ∧ ∀ i j, 0 ≤ i → i < n → 0 ≤ j → j < n → 1 ≤ W i j → W a b < W i j ∨ (W a b = W i j ∧ (a < i ∨ (a = i ∧ b ≤ j)))
theorem lstP_un {n a b a' b' : Int} {W W' : Int → Int → Int} (hw : ag n W W') (h : lstP n W a b) (h' : lstP n W' a' b') : a = a' ∧ b = b' := by
  obtain ⟨⟨p1, p2⟩, ⟨p3, p4⟩, p5, p6⟩ := h
  obtain ⟨⟨q1, q2⟩, ⟨q3, q4⟩, q5, q6⟩ := h'
  have e1 := hw a b p1 p2 p3 p4
  have e2 := hw a' b' q1 q2 q3 q4
  have x := p6 a' b' q1 q2 q3 q4 (by omega)
  have y := q6 a b p1 p2 p3 p4 (by omega)
  omega
abbrev thr (W : Int → Int → Int) (a b i j : Int) : Prop := 1 ≤ W i j ∧ (i = a ↔ j = b)
/-- the choice by a rule -/
def chS (n : Int) (W : Int → Int → Int) (r : Int) (ch : Int → Int) : Prop :=
  (r = 0 ∧ fstC n (okJ n (fun i j => 1 ≤ W i j)) ch) ∨
  (r = 1 ∧ ∃ L, 1 ≤ L ∧ wdA n (fun i j => 1 ≤ W i j) W L ∧ fstC n (okJ n (fun i j => L ≤ W i j)) ch) ∨
  (r = 2 ∧ ∃ a b, lstP n W a b ∧ fstC n (okJ n (thr W a b)) ch) ∨
  (r = 3 ∧ ∃ v : Int → Int, v (p2 n - 1) = 0 ∧ (∀ T, 0 ≤ T → T < p2 n - 1 → dpO n 1 (fun i j => 1 ≤ W i j) W v T) ∧ fstC n (rcG (fun i j => 1 ≤ W i j) W v) ch)
theorem chS_cc {n r : Int} {W : Int → Int → Int} {ch ch' : Int → Int} (e : ∀ i, 0 ≤ i → i < n → ch' i = ch i) (h : chS n W r ch) : chS n W r ch' := by
  rcases h with ⟨q, h⟩ | ⟨q, L, h1, h2, h3⟩ | ⟨q, a, b, h1, h2⟩ | ⟨q, v, h1, h2, h3⟩
  · exact Or.inl ⟨q, fst_cc e h⟩
  · exact Or.inr (Or.inl ⟨q, L, h1, h2, fst_cc e h3⟩)
  · exact Or.inr (Or.inr (Or.inl ⟨q, a, b, h1, fst_cc e h2⟩))
  · exact Or.inr (Or.inr (Or.inr ⟨q, v, h1, h2, fst_cc e h3⟩))
theorem ag_ge {n : Int} {W W' : Int → Int → Int} (hw : ag n W W') (L : Int) : ∀ i j, 0 ≤ i → i < n → 0 ≤ j → j < n → (L ≤ W i j ↔ L ≤ W' i j) := fun i j a b c d => by rw [hw i j a b c d]
theorem chS_un {n r : Int} {W W' : Int → Int → Int} {ch ch' : Int → Int} (hn : 1 ≤ n ∧ n ≤ 8) (hw : ag n W W') (h : chS n W r ch) (h' : chS n W' r ch') : ∀ i, 0 ≤ i → i < n → ch i = ch' i := by
  have hn0 : 0 ≤ n ∧ n ≤ 8 := ⟨by omega, hn.2⟩
  rcases h with ⟨q, h⟩ | ⟨q, L, h1, h2, h3⟩ | ⟨q, a, b, h1, h2⟩ | ⟨q, v, h1, h2, h3⟩ <;> rcases h' with ⟨q', g⟩ | ⟨q', L', g1, g2, g3⟩ | ⟨q', a', b', g1, g2⟩ | ⟨q', v', g1, g2, g3⟩
  · exact lex_un hn0 (ag_ge hw 1) h g
  · exfalso; omega
  · exfalso; omega
  · exfalso; omega
  · exfalso; omega
  · have e := wdA_un hn (ag_ge hw 1) hw h2 g2
    subst e
    exact lex_un hn0 (ag_ge hw L) h3 g3
  · exfalso; omega
  · exfalso; omega
  · exfalso; omega
  · exfalso; omega
  · obtain ⟨e1, e2⟩ := lstP_un hw h1 g1
    subst e1
    subst e2
    exact lex_un hn0 (fun i j x y z w => by rw [thr, thr, hw i j x y z w]) h2 g2
  · exfalso; omega
  · exfalso; omega
  · exfalso; omega
  · exfalso; omega
  · exact rc_un hn0 (ag_ge hw 1) hw (dpO_un hn0 (ag_ge hw 1) hw (by rw [h1, g1]) h2 g2) h3 g3
theorem chS_ps {n r : Int} {W : Int → Int → Int} {ch : Int → Int} (hn : 1 ≤ n ∧ n ≤ 8) (h : chS n W r ch) : perm n ch ∧ ∀ i, 0 ≤ i → i < n → 1 ≤ W i (ch i) := by
  have hn0 : 0 ≤ n ∧ n ≤ 8 := ⟨by omega, hn.2⟩
  rcases h with ⟨q, h⟩ | ⟨q, L, h1, h2, h3⟩ | ⟨q, a, b, h1, h2⟩ | ⟨q, v, h1, h2, h3⟩
  · exact ⟨fst_perm (fun T j q => q.1) h, fst_op hn0 (op := fun i j => 1 ≤ W i j) (fun T j q => q.1) (fun T j q => q.2.1) h⟩
  · exact ⟨fst_perm (fun T j q => q.1) h3, fun i a b => by have := fst_op hn0 (op := fun i j => L ≤ W i j) (fun T j q => q.1) (fun T j q => q.2.1) h3 i a b; omega⟩
  · exact ⟨fst_perm (fun T j q => q.1) h2, fun i x y => (fst_op hn0 (op := thr W a b) (fun T j q => q.1) (fun T j q => q.2.1) h2 i x y).1⟩
  · exact ⟨fst_perm (fun T j q => q.1.1) h3, fst_op hn0 (op := fun i j => 1 ≤ W i j) (fun T j q => q.1.1) (fun T j q => q.1.2.1) h3⟩
/-- one part taken off -/
def stp (n r : Int) (W W' : Int → Int → Int) (ch : Int → Int) (w : Int) : Prop := chS n W r ch ∧ (∃ i, 0 ≤ i ∧ i < n ∧ w = W i (ch i)) ∧ (∀ i, 0 ≤ i → i < n → w ≤ W i (ch i)) ∧ ∀ i j, 0 ≤ i → i < n → 0 ≤ j → j < n → W' i j = W i j - (if j = ch i then w else 0)
theorem stp_cc {n r w : Int} {W W' W2 : Int → Int → Int} {ch ch' : Int → Int} (e : ∀ i, 0 ≤ i → i < n → ch' i = ch i) (ew : ag n W2 W') (h : stp n r W W' ch w) : stp n r W W2 ch' w := by
  obtain ⟨h1, ⟨x, x1, x2, x3⟩, h3, h4⟩ := h
  refine ⟨chS_cc e h1, ⟨x, x1, x2, by rw [e x x1 x2]; exact x3⟩, fun i a b => by rw [e i a b]; exact h3 i a b, fun i j a b c d => by rw [ew i j a b c d, e i a b]; exact h4 i j a b c d⟩
theorem stp_un {n r w w' : Int} {W W' V V' : Int → Int → Int} {ch ch' : Int → Int} (hn : 1 ≤ n ∧ n ≤ 8) (hw : ag n W V) (h : stp n r W W' ch w) (h' : stp n r V V' ch' w') : ag n W' V' ∧ w = w' ∧ ∀ i, 0 ≤ i → i < n → ch i = ch' i := by
  have ec := chS_un hn hw h.1 h'.1
  obtain ⟨h1, ⟨x, x1, x2, x3⟩, h3, h4⟩ := h
  obtain ⟨g1, ⟨y, y1, y2, y3⟩, g3, g4⟩ := h'
  have hc := (chS_ps hn h1).1.1
  have ev : ∀ i, 0 ≤ i → i < n → W i (ch i) = V i (ch' i) := fun i a b => by rw [← ec i a b]; exact hw i (ch i) a b (hc i a b).1 (hc i a b).2
  have e : w = w' := by
    have a := h3 y y1 y2
    have b := g3 x x1 x2
    rw [ev y y1 y2] at a
    rw [← ev x x1 x2] at b
    omega
  exact ⟨fun i j a b c d => by rw [h4 i j a b c d, g4 i j a b c d, hw i j a b c d, ec i a b, e], e, ec⟩
/-- how many cells are above 0 -/
def np2 (n : Int) (W : Int → Int → Int) : Int := sm (fun i => sm (fun j => if 0 < W i j then 1 else 0) n.toNat) n.toNat
theorem np2_bd {n : Int} (hn : 0 ≤ n ∧ n ≤ 8) (W : Int → Int → Int) : 0 ≤ np2 n W ∧ np2 n W ≤ 64 := by
  have x := sm_bd (f := fun i => sm (fun j => if 0 < W i j then 1 else 0) n.toNat) (B := 8) (by decide) (n := n.toNat) (fun i a b => by
    have y := sm_bd (f := fun j => if 0 < W i j then 1 else 0) (B := 1) (by decide) (n := n.toNat) (fun j a b => by (try dsimp only); split <;> omega)
    omega)
  unfold np2
  omega
theorem stp_ev {n r m w : Int} {W W' : Int → Int → Int} {ch : Int → Int} (hn : 1 ≤ n ∧ n ≤ 8) (he : EvW n W m) (h : stp n r W W' ch w) : 1 ≤ w ∧ w ≤ m ∧ EvW n W' (m - w) ∧ np2 n W' + 1 ≤ np2 n W := by
  obtain ⟨h1, ⟨x, x1, x2, x3⟩, h3, h4⟩ := h
  obtain ⟨hp, hc⟩ := chS_ps hn h1
  have hx := hp.1 x x1 x2
  have w1 : 1 ≤ w := by rw [x3]; exact hc x x1 x2
  have w2 : w ≤ m := by rw [x3]; exact EvW_bd he ⟨x1, x2⟩ hx
  refine ⟨w1, w2, ⟨fun a j y1 y2 y3 y4 => ?_, fun a y1 y2 => ?_, fun j y1 y2 => ?_⟩, ?_⟩
  · rw [h4 a j y1 y2 y3 y4]
    have g1 := he.1 a j y1 y2 y3 y4
    split
    · next q => rw [q]; have := h3 a y1 y2; omega
    · omega
  · have e1 : sm (fun j => W' a j) n.toNat = sm (fun j => W a j - (if j = ch a then w else 0)) n.toNat := sm_cg (fun j b c => h4 a j y1 y2 b (by omega))
    have hi := hp.1 a y1 y2
    rw [e1, sm_sub, sm_one w hi.1 (by omega), he.2.1 a y1 y2]
  · have e1 : sm (fun a => W' a j) n.toNat = sm (fun a => W a j - (if ch a = j then w else 0)) n.toNat := sm_cg (fun a b c => by
      rw [h4 a j b (by omega) y1 y2]
      by_cases q : j = ch a
      · rw [if_pos q, if_pos q.symm]
      · rw [if_neg q, if_neg (fun y => q y.symm)])
    rw [e1, sm_sub, perm_col (by omega) hp w ⟨y1, y2⟩, he.2.2 j y1 y2]
  · have le : ∀ i j : Int, 0 ≤ i → i < n → 0 ≤ j → j < n → (if 0 < W' i j then (1 : Int) else 0) ≤ (if 0 < W i j then 1 else 0) := fun i j a b c d => by
      have g : W' i j ≤ W i j := by rw [h4 i j a b c d]; split <;> omega
      by_cases z : 0 < W' i j
      · rw [if_pos z, if_pos (by omega)]; exact Int.le_refl _
      · rw [if_neg z]; split <;> omega
    unfold np2
    refine sm_less (x := x) (fun i a b => sm_le2 (fun j c d => le i j a (by omega) c (by omega))) x1 (by omega) ?_
    refine sm_less (x := ch x) (fun j c d => le x j x1 x2 c (by omega)) hx.1 (by omega) ?_
    have g6 := h4 x (ch x) x1 x2 hx.1 hx.2
    rw [if_pos rfl] at g6
    rw [if_neg (by omega), if_pos (by omega)]
    omega
theorem np2_pos {n m : Int} {W : Int → Int → Int} (hn : 1 ≤ n ∧ n ≤ 8) (he : EvW n W m) (hm : 1 ≤ m) : 1 ≤ np2 n W := by
  obtain ⟨f, hf, hp⟩ := birk he (by omega) (by omega)
  have a := hf.1 0 (by omega) (by omega)
  have b := hp 0 (by omega) (by omega)
  have x := sm_le (f := fun i => sm (fun j => if 0 < W i j then 1 else 0) n.toNat) (n := n.toNat) (fun k c d => (sm_bd (f := fun j => if 0 < W k j then 1 else 0) (B := 1) (by decide) (n := n.toNat) (fun j a b => by (try dsimp only); split <;> omega)).1) 0 (by omega) (by omega)
  have y := sm_le (f := fun j => if 0 < W 0 j then (1 : Int) else 0) (n := n.toNat) (fun k c d => by (try dsimp only); split <;> omega) (f 0) a.1 (by omega)
  try dsimp only at x y
  rw [if_pos b] at y
  unfold np2
  omega
/-- the parts one after the other -/
def Pl (n r : Int) (W0 : Int → Int → Int) (wt : Int → Int) (col : Int → Int → Int) : Nat → (Int → Int → Int) → Prop
  | 0, W => ag n W W0
  | k + 1, W => ∃ W1, Pl n r W0 wt col k W1 ∧ stp n r W1 W (col k) (wt k)
theorem Pl_cg {n r : Int} {W0 : Int → Int → Int} {wt wt' : Int → Int} {col col' : Int → Int → Int} : ∀ {k : Nat} {W W' : Int → Int → Int}, (∀ q : Int, 0 ≤ q → q < k → wt' q = wt q ∧ ∀ i, 0 ≤ i → i < n → col' q i = col q i) → ag n W' W → Pl n r W0 wt col k W → Pl n r W0 wt' col' k W'
  | 0, _, _, _, ew, h => ew.tr h
  | k + 1, W, W', e, ew, ⟨W1, h1, h2⟩ => by
    obtain ⟨e1, e2⟩ := e k (by omega) (by omega)
    refine ⟨W1, Pl_cg (fun q a b => e q a (by omega)) (ag_rf _ _) h1, ?_⟩
    rw [e1]
    exact stp_cc e2 ew h2
theorem Pl_w0 {n r : Int} {W0 V0 : Int → Int → Int} {wt : Int → Int} {col : Int → Int → Int} (e : ag n W0 V0) : ∀ {k : Nat} {W : Int → Int → Int}, Pl n r W0 wt col k W → Pl n r V0 wt col k W
  | 0, _, h => h.tr e
  | _ + 1, _, ⟨W1, h1, h2⟩ => ⟨W1, Pl_w0 e h1, h2⟩
theorem Pl_un {n r : Int} {W0 V0 : Int → Int → Int} {wt wt' : Int → Int} {col col' : Int → Int → Int} (hn : 1 ≤ n ∧ n ≤ 8) (h0 : ag n W0 V0) : ∀ {k : Nat} {W V : Int → Int → Int}, Pl n r W0 wt col k W → Pl n r V0 wt' col' k V → ag n W V ∧ ∀ q : Int, 0 ≤ q → q < k → wt q = wt' q ∧ ∀ i, 0 ≤ i → i < n → col q i = col' q i
  | 0, _, _, h, g => ⟨(h.tr h0).tr g.sy, fun q a b => by omega⟩
  | k + 1, W, V, ⟨W1, h1, h2⟩, ⟨V1, g1, g2⟩ => by
    obtain ⟨a1, a2⟩ := Pl_un hn h0 h1 g1
    obtain ⟨b1, b2, b3⟩ := stp_un hn a1 h2 g2
    refine ⟨b1, fun q x y => ?_⟩
    by_cases z : q < k
    · exact a2 q x z
    · have z2 : q = k := by omega
      rw [z2]
      exact ⟨b2, b3⟩
theorem Pl_pre {n r : Int} {W0 : Int → Int → Int} {wt : Int → Int} {col : Int → Int → Int} {k : Nat} : ∀ {d : Nat} {W : Int → Int → Int}, Pl n r W0 wt col (k + d) W → ∃ W1, Pl n r W0 wt col k W1 ∧ (1 ≤ d → ∃ W2, stp n r W1 W2 (col k) (wt k))
  | 0, W, h => ⟨W, h, fun q => by omega⟩
  | 1, W, ⟨W1, h1, h2⟩ => ⟨W1, h1, fun _ => ⟨W, h2⟩⟩
  | d + 2, W, ⟨W1, h1, _⟩ => by
    obtain ⟨W3, a, b⟩ := Pl_pre (d := d + 1) h1
    exact ⟨W3, a, fun _ => b (by omega)⟩
/-- nothing is left -/
def nil0 (n : Int) (W : Int → Int → Int) : Prop := ∀ i j, 0 ≤ i → i < n → 0 ≤ j → j < n → W i j ≤ 0
theorem stp_no {n r w : Int} {W V W' : Int → Int → Int} {ch : Int → Int} (hn : 1 ≤ n ∧ n ≤ 8) (h : stp n r W W' ch w) (hg : ag n W V) (hz : nil0 n V) : False := by
  obtain ⟨p, q⟩ := chS_ps hn h.1
  have a := p.1 0 (by omega) (by omega)
  have b := q 0 (by omega) (by omega)
  rw [hg 0 (ch 0) (by omega) (by omega) a.1 a.2] at b
  have c := hz 0 (ch 0) (by omega) (by omega) a.1 a.2
  omega
/-- all parts of a table -/
def PE (n r : Int) (W0 : Int → Int → Int) (wt : Int → Int) (col : Int → Int → Int) (k : Int) : Prop := 0 ≤ k ∧ ∃ W, Pl n r W0 wt col k.toNat W ∧ nil0 n W
theorem PE_lt {n r : Int} {W0 V0 : Int → Int → Int} {wt wt' : Int → Int} {col col' : Int → Int → Int} {k k' : Int} (hn : 1 ≤ n ∧ n ≤ 8) (h0 : ag n W0 V0) (h : PE n r W0 wt col k) (h' : PE n r V0 wt' col' k') : ¬ k < k' := by
  intro q
  obtain ⟨k0, W, a, b⟩ := h
  obtain ⟨k0', V, a', b'⟩ := h'
  rw [show k'.toNat = k.toNat + (k'.toNat - k.toNat) by omega] at a'
  obtain ⟨V1, c1, c2⟩ := Pl_pre a'
  obtain ⟨V2, d⟩ := c2 (by omega)
  exact stp_no hn d ((Pl_un hn h0 a c1).1.sy) b
theorem PE_un {n r : Int} {W0 V0 : Int → Int → Int} {wt wt' : Int → Int} {col col' : Int → Int → Int} {k k' : Int} (hn : 1 ≤ n ∧ n ≤ 8) (h0 : ag n W0 V0) (h : PE n r W0 wt col k) (h' : PE n r V0 wt' col' k') : k = k' ∧ ∀ q : Int, 0 ≤ q → q < k → wt q = wt' q ∧ ∀ i, 0 ≤ i → i < n → col q i = col' q i := by
  have x := PE_lt hn h0 h h'
  have y := PE_lt hn h0.sy h' h
  have e : k = k' := by omega
  subst e
  obtain ⟨k0, W, a, b⟩ := h
  obtain ⟨k0', V, a', b'⟩ := h'
  exact ⟨rfl, fun q c d => (Pl_un hn h0 a a').2 q c (by omega)⟩
theorem EvW_0 {n : Int} {W : Int → Int → Int} (h : EvW n W 0) : nil0 n W := fun i j a b c d => EvW_bd h ⟨a, b⟩ ⟨c, d⟩
theorem PE_w0 {n r k : Int} {W0 V0 : Int → Int → Int} {wt : Int → Int} {col : Int → Int → Int} (e : ag n W0 V0) (h : PE n r W0 wt col k) : PE n r V0 wt col k := by
  obtain ⟨h0, W, h1, h2⟩ := h
  exact ⟨h0, W, Pl_w0 e h1, h2⟩
end
