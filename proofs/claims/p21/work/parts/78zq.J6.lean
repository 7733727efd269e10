/-! THE RICHEST CHOICE, the first of several -/
def rcG (op : Int → Int → Prop) (w : Int → Int → Int) (v : Int → Int) (T j : Int) : Prop := okO op v T j ∧ w (pc T) j + v (sB T j) = v T
theorem rc_un {n : Int} {op op' : Int → Int → Prop} {w w' : Int → Int → Int} {v v' : Int → Int} {ch ch' : Int → Int} (hn : 0 ≤ n ∧ n ≤ 8) (he : ∀ i j, 0 ≤ i → i < n → 0 ≤ j → j < n → (op i j ↔ op' i j)) (hw : ∀ i j, 0 ≤ i → i < n → 0 ≤ j → j < n → w i j = w' i j) (hv : ∀ T, 0 ≤ T → T < p2 n → v T = v' T) (h : fstC n (rcG op w v) ch) (h' : fstC n (rcG op' w' v') ch') : ∀ i, 0 ≤ i → i < n → ch i = ch' i :=
  fst_un hn (fun T j q => q.1.1) (fun T j a b c d x y => by
    have s := sB_lt (s := T) (j := j) (n := n) ⟨a, b⟩ ⟨x, y⟩
    unfold rcG okO
    rw [he _ j c d x y, hw _ j c d x y, hv _ s.1 s.2, hv T a b]) h h'
/-- a set whose number isn't below 0 and that isn't whole goes on -/
theorem rc_ex {n : Int} {op : Int → Int → Prop} {w : Int → Int → Int} {v : Int → Int} {T : Int} (h : dpO n 1 op w v T) (h0 : 0 ≤ v T) : ∃ j, 0 ≤ j ∧ j < n ∧ rcG op w v T j := by
  rcases h.2 with q | ⟨j, a, b, c, d⟩
  · omega
  · refine ⟨j, a, b, c, ?_⟩
    unfold cmbG at d
    rw [if_neg (by decide)] at d
    exact d.symm
theorem t_Ch_richestColumn {σ : eS} {c : Nat} {J u n : Int} {op : Int → Int → Prop} (hs : nth shA c = some (1, 64, [])) (hn : 0 ≤ n ∧ n ≤ 8) (hJ : jOf J n op) (hu : 0 ≤ u ∧ u < p2 n) (hp : 0 ≤ pc u ∧ pc u < n) (hc : ∀ k : Int, 0 ≤ k → k < 64 → 0 ≤ σ c k ∧ σ c k ≤ 799999992) (hv : ∀ T, 0 ≤ T → T < p2 n → -1 ≤ σ 18 T ∧ σ 18 T ≤ 6399999936) (hex : ∃ j, 0 ≤ j ∧ j < n ∧ rcG op (fun i j => σ c (i * 8 + j)) (fun k => σ 18 k) u j) : MtI shA M_Ch_richestColumn [vr 16, vr c, vi (pc u), vi (iand (rowJ J (pc u)) (ixor u (-1))), vi u, vi n] σ (fun σ' z => σ' = σ ∧ 0 ≤ z ∧ z < n ∧ rcG op (fun i j => σ c (i * 8 + j)) (fun k => σ 18 k) u z ∧ ∀ j, 0 ≤ j → j < z → ¬ rcG op (fun i j => σ c (i * 8 + j)) (fun k => σ 18 k) u j) := by
  refine Mt.of okM_Ch_richestColumn (Nat.le_of_ble_eq_true rfl) (fun hk hg => ?_)
  have b2 := bit2 hn
  have u256 : 0 ≤ u ∧ u < 256 := ⟨hu.1, by omega⟩
  obtain ⟨o, eo⟩ : ∃ o, o = iand (rowJ J (pc u)) (ixor u (-1)) := ⟨_, rfl⟩
  rw [← eo]
  obtain ⟨G, eG⟩ : ∃ G, G = rcG op (fun i j => σ c (i * 8 + j)) (fun k => σ 18 k) u := ⟨_, rfl⟩
  rw [← eG] at hex ⊢
  have hG : ∀ j, G j ↔ ((bt u j = false ∧ op (pc u) j ∧ 0 ≤ σ 18 (sB u j)) ∧ σ c (pc u * 8 + j) + σ 18 (sB u j) = σ 18 u) := fun j => by rw [eG]; exact Iff.rfl
  clear eG
  refine ok_iconst 0 rfl rfl (by decide) (ok_ist6 1 rfl rfl rfl ?_)
  refine lpO (fun j : Int => [some (vr 16), some (vr c), some (vi (pc u)), some (vi o), some (vi u), some (vi n), some (vi j), none, none]) (fun _ => σ) (fun j => 0 ≤ j ∧ j ≤ n ∧ ∀ i, 0 ≤ i → i < j → ¬ G i) (fun j => (8 - j).toNat) ?_ 0 ⟨by omega, by omega, fun i a b => by omega⟩
  rintro j ⟨j1, j2, j3⟩ ih
  refine ok_iload 2 rfl rfl rfl (ok_iload 3 rfl rfl rfl (ok_icmp_ge 4 75 rfl rfl rfl (fun h7 => ?_) (fun h7 => ?_)))
  · refine ok_iconst 44 rfl rfl (by decide) (ok_iret 45 rfl rfl rfl ?_)
    obtain ⟨i, i0, i1, i2⟩ := hex
    exact absurd i2 (j3 i i0 (by omega))
  · have hop := open_sp hn hJ (T := u) u256 hp (j := j) ⟨j1, by omega⟩
    rw [← eo] at hop
    have e2 := bitP (s := u) (j := j) u256 ⟨j1, by omega⟩
    have sl := sB_lt (s := u) (j := j) (n := n) hu ⟨j1, by omega⟩
    have vb := hv _ sl.1 sl.2
    have cb := hc (pc u * 8 + j) (by omega) (by omega)
    refine ok_iload_n 5 rfl rfl rfl (ok_iload 6 rfl rfl rfl (ok_ishr 7 rfl rfl (ok_iconst 8 rfl rfl (by decide) (ok_iand 9 rfl rfl (ok_if_eq 10 69 rfl rfl rfl (fun h16 => ?_) (fun h16 => ?_))))))
    · refine ok_inc6 42 rfl rfl rfl (by first | omega | (simp [up_if]; omega) | (simp [up_if] at *; omega)) (ok_goto 43 3 rfl rfl rfl ?_)
      exact ok_fg [some (vr 16), some (vr c), some (vi (pc u)), some (vi o), some (vi u), some (vi n), some (vi (j + 1)), none, none] ⟨rfl, rfl, rfl, rfl, rfl, rfl, rfl, trivial⟩ (ih (j + 1) ⟨by omega, by omega, lt_ext j3 (fun q => by have q1 := ((hG j).mp q).1; exact hop.2.mp h16 ⟨q1.1, q1.2.1⟩)⟩ (by omega))
    · refine ok_aload_n 11 rfl rfl rfl (ok_getR 12 rfl rfl fl_X0_15 rfl rfl (ok_iload 13 rfl rfl rfl (ok_iconst 14 rfl rfl (by decide) (ok_iload 15 rfl rfl rfl (ok_ishl 16 rfl rfl (ok_ior 17 rfl rfl ?_))))))
      rw [e2]
      refine ok_lald 18 rfl rfl rfl (by omega) (ok_lst7 19 rfl rfl rfl (ok_lload 20 rfl rfl rfl (ok_ldc2 21 (-1) rfl rfl kc_X0_44 (by decide) (ok_lcmp_eq 22 23 69 rfl rfl rfl rfl rfl (fun h38 => ?_) (fun h38 => ?_)))))
      · refine ok_inc6 42 rfl rfl rfl (by first | omega | (simp [up_if]; omega) | (simp [up_if] at *; omega)) (ok_goto 43 3 rfl rfl rfl ?_)
        exact ok_fg [some (vr 16), some (vr c), some (vi (pc u)), some (vi o), some (vi u), some (vi n), some (vi (j + 1)), none, none] ⟨rfl, rfl, rfl, rfl, rfl, rfl, rfl, trivial⟩ (ih (j + 1) ⟨by omega, by omega, lt_ext j3 (fun q => by have q1 := ((hG j).mp q).1.2.2; omega)⟩ (by omega))
      · refine ok_aload_n 24 rfl rfl rfl (ok_iload_n 25 rfl rfl rfl (ok_bipush 26 rfl rfl (by decide) (by decide) (ok_imul 27 rfl rfl (by first | omega | (simp [up_if]; omega) | (simp [up_if] at *; omega)) (ok_iload 28 rfl rfl rfl (ok_iadd 29 rfl rfl (by first | omega | (simp [up_if]; omega) | (simp [up_if] at *; omega)) (ok_iald 30 rfl rfl hs (by first | omega | (simp [up_if]; omega) | (simp [up_if] at *; omega)) (ok_i2l 31 rfl rfl (ok_lload 32 rfl rfl rfl (ok_ladd 33 rfl rfl (by first | omega | (simp [up_if]; omega) | (simp [up_if] at *; omega)) (ok_aload_n 34 rfl rfl rfl (ok_getR 35 rfl rfl fl_X0_15 rfl rfl (ok_iload 36 rfl rfl rfl (ok_lald 37 rfl rfl rfl (by first | omega | (simp [up_if]; omega) | (simp [up_if] at *; omega)) (ok_lcmp_ne 38 39 69 rfl rfl rfl rfl rfl (fun h62 => ?_) (fun h62 => ?_)))))))))))))))
        · refine ok_inc6 42 rfl rfl rfl (by first | omega | (simp [up_if]; omega) | (simp [up_if] at *; omega)) (ok_goto 43 3 rfl rfl rfl ?_)
          exact ok_fg [some (vr 16), some (vr c), some (vi (pc u)), some (vi o), some (vi u), some (vi n), some (vi (j + 1)), none, none] ⟨rfl, rfl, rfl, rfl, rfl, rfl, rfl, trivial⟩ (ih (j + 1) ⟨by omega, by omega, lt_ext j3 (fun q => by have q1 := ((hG j).mp q).2; omega)⟩ (by omega))
        · refine ok_iload 40 rfl rfl rfl (ok_iret 41 rfl rfl rfl ?_)
          obtain ⟨ob, oo⟩ := hop.1.mp h16
          exact ⟨_, rfl, rfl, j1, by omega, (hG j).mpr ⟨⟨ob, oo, by omega⟩, by omega⟩, j3⟩
abbrev rgFr : Nat → Int → Prop := fun c _ => c = 17 ∨ c = 18
def FR (σ : eS) (c : Nat) (n : Int) (op : Int → Int → Prop) (σ' : eS) (z : Int) : Prop := fr rgFr σ σ' ∧ iCh σ' ∧ z = σ' 18 0 ∧ σ' 18 (p2 n - 1) = 0 ∧ (∀ T, 0 ≤ T → T < p2 n - 1 → dpO n 1 op (fun i j => σ c (i * 8 + j)) (fun k => σ' 18 k) T ∧ -1 ≤ σ' 18 T ∧ σ' 18 T ≤ 799999992 * 8) ∧ (z ≠ -1 → fstC n (rcG op (fun i j => σ c (i * 8 + j)) (fun k => σ' 18 k)) (fun i => σ' 17 i))
theorem t_Ch_findRichest {σ : eS} {c : Nat} {J n : Int} {op : Int → Int → Prop} (hs : nth shA c = some (1, 64, [])) (hC : iCh σ) (hn : 0 ≤ n ∧ n ≤ 8) (hJ : jOf J n op) (hc18 : c ≠ 18) (hc17 : c ≠ 17) (hc : ∀ k : Int, 0 ≤ k → k < 64 → 0 ≤ σ c k ∧ σ c k ≤ 799999992) : MtL shA M_Ch_findRichest [vr 16, vr c, vl J, vi n] σ (FR σ c n op) := by
  refine Mt.of okM_Ch_findRichest (Nat.le_of_ble_eq_true rfl) (fun hk hg => ?_)
  have b2 := bit2 hn
  refine ok_aload_n 0 rfl rfl rfl (ok_aload_n 1 rfl rfl rfl (ok_lload_n 2 rfl rfl rfl (ok_iload 3 rfl rfl rfl (ok_callVV (M' := M_Ch_sumUp) (as := [_, _, _]) 4 rfl rfl ml_X0_55 (t_Ch_sumUp hs hn hJ hc18 hc) rfl rfl (Nat.le_of_ble_eq_true rfl) ⟨Nat.le_of_ble_eq_true rfl, Nat.le_of_ble_eq_true rfl⟩ rfl (Nat.le_of_ble_eq_true rfl) (fun τ hq => ?_)))))
  obtain ⟨f, hm, hT⟩ := hq
  have f0 : fr rgFr σ τ := f.mono (fun c k q => by simp only [rgFr]; omega)
  have hC0 : iCh τ := iCh_cg hC (fun k => f _ _ (by simp))
  refine ok_aload_n 5 rfl rfl rfl (ok_getR 6 rfl rfl fl_X0_15 rfl rfl (ok_iconst 7 rfl rfl (by decide) (ok_lald 8 rfl rfl rfl (by first | omega | (simp [up_if]; omega) | (simp [up_if] at *; omega)) (ok_ldc2 9 (-1) rfl rfl kc_X0_44 (by decide) (ok_lcmp_ne 10 11 25 rfl rfl rfl rfl rfl (fun h17 => ?_) (fun h17 => ?_))))))
  · refine ok_iconst 14 rfl rfl (by decide) (ok_ist5 15 rfl rfl rfl (ok_iconst 16 rfl rfl (by decide) (ok_ist6 17 rfl rfl rfl ?_)))
    have v0 : 0 ≤ τ 18 0 := by
      by_cases q : p2 n - 1 = 0
      · rw [q] at hm; omega
      · have := (hT 0 (by omega) (by omega)).2.1; omega
    have ew : (fun i j => τ c (i * 8 + j)) = (fun i j => σ c (i * 8 + j)) := by funext i j; exact f c _ hc18
    have hcτ : ∀ k : Int, 0 ≤ k → k < 64 → 0 ≤ τ c k ∧ τ c k ≤ 799999992 := fun k a b => by rw [f c k hc18]; exact hc k a b
    have hvb : ∀ T, 0 ≤ T → T < p2 n → -1 ≤ τ 18 T ∧ τ 18 T ≤ 6399999936 := fun T a b => by
      by_cases q : T = p2 n - 1
      · rw [q, hm]; decide
      · have := (hT T a (by omega)).2; omega
    obtain ⟨G, eG⟩ : ∃ G, G = rcG op (fun i j => σ c (i * 8 + j)) (fun k => τ 18 k) := ⟨_, rfl⟩
    have gb : ∀ T j, G T j → bt T j = false := fun T j q => by rw [eG] at q; exact q.1.1
    refine lpO3 (fun (u r : Int) (_ : eS) => [some (vr 16), some (vr c), some (vl J), none, some (vi n), some (vi u), some (vi r), none]) (fun _ _ ρ => ρ) (fun u r ρ => 0 ≤ r ∧ r ≤ n ∧ fr (fun c _ => c = 17) τ ρ ∧ iCh ρ ∧ u = cs (fun i => ρ 17 i) r.toNat ∧ 0 ≤ τ 18 u ∧ ∀ i, 0 ≤ i → i < r → 0 ≤ ρ 17 i ∧ ρ 17 i < n ∧ G (cs (fun i => ρ 17 i) i.toNat) (ρ 17 i) ∧ ∀ j, 0 ≤ j → j < ρ 17 i → ¬ G (cs (fun i => ρ 17 i) i.toNat) j) (fun _ r _ => (8 - r).toNat) ?_ 0 0 τ ⟨by omega, by omega, fr.rf, hC0, rfl, v0, fun i a b => by omega⟩
    rintro u r ρ ⟨r1, r2, f1, hC1, eu, hv1, hP⟩ ih
    have e18 : ∀ k, ρ 18 k = τ 18 k := fun k => f1 18 k (by omega)
    have e18' : (fun k => ρ 18 k) = (fun k => τ 18 k) := by funext k; exact e18 k
    have ewρ : (fun i j => ρ c (i * 8 + j)) = (fun i j => σ c (i * 8 + j)) := by rw [← ew]; funext i j; exact f1 c _ hc17
    obtain ⟨c1, c2, c3⟩ := cs_in (ch := fun i => ρ 17 i) hn r.toNat (by omega) (fun i a b => by have := hP i a (by omega); exact ⟨this.1, this.2.1, gb _ _ this.2.2.1⟩)
    rw [← eu] at c1 c2 c3
    have pu : pc u = r := by omega
    refine ok_iload 18 rfl rfl rfl (ok_iload 19 rfl rfl rfl (ok_icmp_ge 20 86 rfl rfl rfl (fun h35 => ?_) (fun h35 => ?_)))
    · refine ok_aload_n 48 rfl rfl rfl (ok_getR 49 rfl rfl fl_X0_15 rfl rfl (ok_iconst 50 rfl rfl (by decide) (ok_lald 51 rfl rfl rfl (by first | omega | (simp [up_if]; omega) | (simp [up_if] at *; omega)) (ok_lret 52 rfl rfl rfl ?_))))
      refine ⟨_, rfl, f0.tr (f1.mono (fun c k q => by simp only [rgFr]; omega)), hC1, rfl, by rw [e18]; exact hm, ?_, fun _ => ?_⟩
      · rw [e18']
        intro T a b
        rw [e18]
        exact hT T a b
      · rw [e18', ← eG]
        intro i a b
        exact hP i a (by omega)
    · refine ok_aload_n 21 rfl rfl rfl (ok_aload_n 22 rfl rfl rfl (ok_iload 23 rfl rfl rfl (ok_lload_n 24 rfl rfl rfl (ok_iload 25 rfl rfl rfl (ok_callSI (M' := M_Jo_rowOf) (as := [_, _]) 26 rfl rfl ml_X0_26 (s_Jo_rowOf) ⟨Nat.le_of_ble_eq_true rfl, Nat.le_of_ble_eq_true rfl⟩ rfl (Nat.le_of_ble_eq_true rfl) (fun σ' z hz => ?_))))))
      rw [hz.1, hz.2]
      clear hz z σ'
      refine ok_iload 27 rfl rfl rfl (ok_iconst 28 rfl rfl (by decide) (ok_ixor 29 rfl rfl (ok_iand 30 rfl rfl (ok_iload 31 rfl rfl rfl (ok_iload 32 rfl rfl rfl ?_)))))
      have ul : u < p2 n - 1 := by
        by_cases q : u = p2 n - 1
        · have := (bitL (s := u) (n := n) ⟨c1, by omega⟩ hn).2.1 q; omega
        · omega
      have hex := rc_ex (hT u c1 ul).1 hv1
      have hr := t_Ch_richestColumn (σ := ρ) (c := c) (J := J) (u := u) (n := n) (op := op) hs hn hJ ⟨c1, c2⟩ ⟨by omega, by omega⟩ (fun k a b => by rw [f1 c k hc17]; exact hcτ k a b) (fun T a b => by rw [e18]; exact hvb T a b) (by rw [ewρ, e18']; exact hex)
      rw [ewρ, e18', ← eG, pu] at hr
      refine ok_callVI (M' := M_Ch_richestColumn) (as := [_, _, _, _, _]) 33 rfl rfl ml_X0_59 (hr) rfl rfl (Nat.le_of_ble_eq_true rfl) ⟨Nat.le_of_ble_eq_true rfl, Nat.le_of_ble_eq_true rfl⟩ rfl (Nat.le_of_ble_eq_true rfl) (fun σ' z hz => ?_)
      obtain ⟨hs_, hz⟩ := hz
      rw [hs_]; clear hs_ σ'
      obtain ⟨y1, y2, y3, y4⟩ := hz
      refine ok_ist7 34 rfl rfl rfl (ok_aload_n 35 rfl rfl rfl (ok_getR 36 rfl rfl fl_X0_9 rfl rfl (ok_iload 37 rfl rfl rfl (ok_iload 38 rfl rfl rfl (ok_iast 39 rfl rfl rfl (by first | omega | (simp [up_if]; omega) | (simp [up_if] at *; omega)) (ok_iload 40 rfl rfl rfl (ok_iconst 41 rfl rfl (by decide) (ok_iload 42 rfl rfl rfl (ok_ishl 43 rfl rfl (ok_ior 44 rfl rfl (ok_ist5 45 rfl rfl rfl (ok_inc6 46 rfl rfl rfl (by first | omega | (simp [up_if]; omega) | (simp [up_if] at *; omega)) (ok_goto 47 31 rfl rfl rfl ?_)))))))))))))
      rw [bitP (s := u) (j := z) ⟨c1, by omega⟩ ⟨y1, by omega⟩]
      have ecs : ∀ i : Int, 0 ≤ i → i ≤ r → cs (fun i => up ρ 17 r z 17 i) i.toNat = cs (fun i => ρ 17 i) i.toNat := fun i a b => cs_cg (fun k x y => by rw [up_nk _ _ _ _ (by omega)])
      have ec1 : cs (fun i => up ρ 17 r z 17 i) (r + 1).toNat = sB u z := by
        rw [cs_s _ r1, ecs r r1 (Int.le_refl _), ← eu, up_same]
      have gz : 0 ≤ τ 18 (sB u z) := by rw [eG] at y3; exact y3.1.2.2
      refine ok_fg [some (vr 16), some (vr c), some (vl J), none, some (vi n), some (vi _), some (vi (r + 1)), none] ⟨rfl, rfl, rfl, rfl, rfl, rfl, trivial⟩ (ih _ (r + 1) _ ⟨by omega, by omega, fr_up f1 rfl, up_ch hC1 ⟨by omega, by omega⟩, ec1.symm, gz, fun i a b => ?_⟩ (by omega))
      rw [ecs i a (by omega)]
      rcases (by omega : i < r ∨ i = r) with x | x
      · rw [up_nk _ _ _ _ (by omega)]; exact hP i a x
      · rw [x, up_same, ← eu]; exact ⟨y1, y2, y3, y4⟩
  · refine ok_ldc2 12 (-1) rfl rfl kc_X0_44 (by decide) (ok_lret 13 rfl rfl rfl ?_)
    exact ⟨_, rfl, f0, hC0, by omega, hm, hT, fun q => absurd rfl q⟩
/-- the reference's: the same first richest choice -/
theorem t_Mo_chooseGreatest {σ : eS} {l : Int} (h : nW σ) (hw : wBd σ) (hl : 0 ≤ l) (hc : cpl (σ 0 22) (fun i j => l ≤ wk σ i j) (σ 0 22).toNat 0) : MtL shB M_Mo_chooseGreatest [vr 0, vi l] σ (fun σ' z => fr (fun c _ => c = 10 ∨ c = 11) σ σ' ∧ z = σ' 10 0 ∧ 0 ≤ z ∧ σ' 10 (p2 (σ 0 22) - 1) = 0 ∧ (∀ T, 0 ≤ T → T < p2 (σ 0 22) - 1 → dpO (σ 0 22) 1 (fun i j => l ≤ wk σ i j) (wk σ) (fun k => σ' 10 k) T) ∧ fstC (σ 0 22) (rcG (fun i j => l ≤ wk σ i j) (wk σ) (fun k => σ' 10 k)) (fun i => σ' 11 i)) := by
  refine Mt.of okM_Mo_chooseGreatest (Nat.le_of_ble_eq_true rfl) (fun hk hg => ?_)
  obtain ⟨n, en⟩ : ∃ x, x = σ 0 22 := ⟨_, rfl⟩
  have hn : 1 ≤ n ∧ n ≤ 8 := by rw [en]; exact h
  obtain ⟨z1, z2, z3, z4⟩ := bit2 (n := n) (by omega)
  have z4 := z4 hn.1
  rw [← en] at hc ⊢
  have hwb : ∀ i j, 0 ≤ i → i < n → 0 ≤ j → j < n → 0 ≤ wk σ i j ∧ wk σ i j ≤ 799999992 := fun i j a1 a2 a3 a4 => hw i j a1 (by omega) a3 (by omega)
  refine ok_aload_n 0 rfl rfl rfl (ok_iload_n 1 rfl rfl rfl (ok_iconst 2 rfl rfl (by decide) (ok_callVV (M' := M_Mo_laysCan) (as := [_, _]) 3 rfl rfl ml_X12_256 (s_Mo_laysCan h hw hl (Or.inr rfl)) rfl rfl (Nat.le_of_ble_eq_true rfl) ⟨Nat.le_of_ble_eq_true rfl, Nat.le_of_ble_eq_true rfl⟩ rfl (Nat.le_of_ble_eq_true rfl) (fun τ hq => ?_))))
  rw [← en] at hq
  obtain ⟨q1, q2, q3⟩ := hq
  rw [if_neg (by decide)] at q2
  have hv0 : 0 ≤ τ 10 0 := (dp_ge (sums := 1) (v := fun k => τ 10 k) hn (fun i j a b c d => (hwb i j a b c d).1) q2 (fun T a b => (q3 T a b).1) n.toNat 0 (by omega) (by omega) (by simp [pc]) hc).1
  obtain ⟨G, eG⟩ : ∃ G, G = rcG (fun i j => l ≤ wk σ i j) (wk σ) (fun k => τ 10 k) := ⟨_, rfl⟩
  have hG : ∀ T j, G T j ↔ ((bt T j = false ∧ l ≤ wk σ (pc T) j ∧ 0 ≤ τ 10 (sB T j)) ∧ wk σ (pc T) j + τ 10 (sB T j) = τ 10 T) := fun T j => by rw [eG]; exact Iff.rfl
  have gb : ∀ T j, G T j → bt T j = false := fun T j q => ((hG T j).mp q).1.1
  refine ok_iconst 4 rfl rfl (by decide) (ok_ist2 5 rfl rfl rfl (ok_iconst 6 rfl rfl (by decide) (ok_ist3 7 rfl rfl rfl ?_)))
  refine lpO2 (fun (i : Int) (ρ : eS) => [some (vr 0), some (vi l), some (vi (cs (fun i => ρ 11 i) i.toNat)), some (vi i), none]) (fun _ ρ => ρ) (fun i ρ => 0 ≤ i ∧ i ≤ n ∧ fr (fun c _ => c = 11) τ ρ ∧ 0 ≤ τ 10 (cs (fun i => ρ 11 i) i.toNat) ∧ ∀ k : Int, 0 ≤ k → k < i → 0 ≤ ρ 11 k ∧ ρ 11 k < n ∧ G (cs (fun i => ρ 11 i) k.toNat) (ρ 11 k) ∧ ∀ j, 0 ≤ j → j < ρ 11 k → ¬ G (cs (fun i => ρ 11 i) k.toNat) j) (fun i _ => (n - i).toNat) ?_ 0 τ ⟨by omega, by omega, fr.rf, hv0, fun k a b => by omega⟩
  rintro i ρ ⟨k1, k2, k3, k7, k8⟩ ih
  obtain ⟨k4, k5, k6⟩ := cs_in (n := n) (ch := fun i => ρ 11 i) ⟨by omega, by omega⟩ i.toNat (by omega) (fun k a b => by have := k8 k a (by omega); exact ⟨this.1, this.2.1, gb _ _ this.2.2.1⟩)
  obtain ⟨S, eS⟩ : ∃ x, x = cs (fun i => ρ 11 i) i.toNat := ⟨_, rfl⟩
  rw [← eS] at k4 k5 k6 k7 ⊢
  have pS : pc S = i := by omega
  have f1 : fr (fun c _ => c = 10 ∨ c = 11) σ ρ := fun c k q => by rw [k3 c k (by omega), q1 c k (by omega)]
  have u2 : ρ 0 22 = n := by rw [f1 0 22 (by omega), en]
  have u3 : nW ρ := h.fr' (by rw [u2, en])
  have u1 : wk ρ = wk σ := by funext a b; unfold wk; rw [f1 0 22 (by omega), f1 9 _ (by omega)]
  have u10 : ∀ k, ρ 10 k = τ 10 k := fun k => k3 10 k (by omega)
  have u10' : (fun k => ρ 10 k) = (fun k => τ 10 k) := by funext k; exact u10 k
  refine ok_iload_n 8 rfl rfl rfl (ok_aload_n 9 rfl rfl rfl (ok_getI 10 rfl rfl fl_X12_234 rfl rfl (Or.inl rfl) (ok_icmp_ge 11 115 rfl rfl rfl (fun h15 => ?_) (fun h15 => ?_))))
  · refine ok_aload_n 73 rfl rfl rfl (ok_getR 74 rfl rfl fl_X12_42 rfl rfl (ok_iconst 75 rfl rfl (by decide) (ok_lald 76 rfl rfl rfl (by first | omega | (simp [up_if]; omega) | (simp [up_if] at *; omega)) (ok_lret 77 rfl rfl rfl ?_))))
    refine ⟨_, rfl, f1, rfl, by rw [u10]; exact hv0, by rw [u10]; exact q2, ?_, ?_⟩
    · rw [u10']; intro T a b; exact dpO_of (q3 T a b).1
    · rw [u10', ← eG]; intro k a b; exact k8 k a (by omega)
  · refine ok_iconst 12 rfl rfl (by decide) (ok_ist4 13 rfl rfl rfl ?_)
    have hin : i < n := by omega
    have hS : S < p2 n - 1 := by
      by_cases q : S = p2 n - 1
      · have := (bitL (s := S) (n := n) (by omega) (by omega)).2.1 q; omega
      · omega
    have hex : ∃ j, 0 ≤ j ∧ j < n ∧ G S j := by rw [eG]; exact rc_ex (dpO_of (q3 S k4 hS).1) k7
    refine lpO (fun j : Int => [some (vr 0), some (vi l), some (vi S), some (vi i), some (vi j)]) (fun _ => ρ) (fun j => 0 ≤ j ∧ j < n ∧ ∀ j', 0 ≤ j' → j' < j → ¬ G S j') (fun j => (n - j).toNat) ?_ 0 ⟨by omega, by omega, fun j' a b => by omega⟩
    rintro j ⟨j1, j2, j3⟩ ih2
    have e1 := bitG (s := S) (j := j) (by omega) (by omega)
    have e2 := bitP (s := S) (j := j) (by omega) (by omega)
    obtain ⟨l1, l2⟩ := sB_lt (s := S) (j := j) (n := n) ⟨k4, k5⟩ ⟨j1, j2⟩
    have wb := hwb i j k1 hin j1 j2
    have hGS := hG S j
    rw [pS] at hGS
    have nxt : ¬ G S j → Ok shB M_Mo_chooseGreatest 88 [some (vr 0), some (vi l), some (vi S), some (vi i), some (vi j)] [] ρ (fun σ' v => ∃ z, v = some (vl z) ∧ fr (fun c _ => c = 10 ∨ c = 11) σ σ' ∧ z = σ' 10 0 ∧ 0 ≤ z ∧ σ' 10 (p2 n - 1) = 0 ∧ (∀ T, 0 ≤ T → T < p2 n - 1 → dpO n 1 (fun i j => l ≤ wk σ i j) (wk σ) (fun k => σ' 10 k) T) ∧ fstC n (rcG (fun i j => l ≤ wk σ i j) (wk σ) (fun k => σ' 10 k)) (fun i => σ' 11 i)) := by
      intro hno
      have hj : j + 1 < n := by
        obtain ⟨j', a1, a2, a3⟩ := hex
        by_cases q : j' < j
        · exact absurd a3 (j3 j' a1 q)
        · by_cases q' : j' = j
          · rw [q'] at a3; exact absurd a3 hno
          · omega
      clear hex
      refine ok_inc4 58 rfl rfl rfl (by first | omega | (simp [up_if]; omega) | (simp [up_if] at *; omega)) (ok_goto 59 21 rfl rfl rfl ?_)
      exact ih2 (j + 1) ⟨by omega, hj, lt_ext j3 hno⟩ (by omega)
    clear hex
    refine ok_iload_n 14 rfl rfl rfl (ok_iload 15 rfl rfl rfl (ok_ishr 16 rfl rfl (ok_iconst 17 rfl rfl (by decide) (ok_iand 18 rfl rfl ?_))))
    rw [e1]
    refine ok_iconst 19 rfl rfl (by decide) (ok_icmp_eq 20 88 rfl rfl rfl (fun h28 => ?_) (fun h28 => ?_))
    · exact nxt (fun q => by have q1 := (hGS.mp q).1.1; rw [b1'.mp h28] at q1; cases q1)
    · have hb : bt S j = false := by
        cases hq : bt S j with
        | false => rfl
        | true => exact absurd (b1'.mpr hq) h28
      have hcp := bitC (s := S) (j := j) (by omega) (by omega) hb
      refine ok_aload_n 21 rfl rfl rfl (ok_iload_n 22 rfl rfl rfl (ok_iload 23 rfl rfl rfl (ok_callVI (M' := M_Mo_worked) (as := [_, _]) 24 rfl rfl ml_X12_244 (s_Mo_worked u3 (by omega) (by omega)) rfl rfl (Nat.le_of_ble_eq_true rfl) ⟨Nat.le_of_ble_eq_true rfl, Nat.le_of_ble_eq_true rfl⟩ rfl (Nat.le_of_ble_eq_true rfl) (fun σ' z hz => ?_))))
      rw [hz.1, hz.2, u1]; clear hz z σ'
      refine ok_iload_n 25 rfl rfl rfl (ok_icmp_lt 26 88 rfl rfl rfl (fun h39 => ?_) (fun h39 => ?_))
      · exact nxt (fun q => by have := (hGS.mp q).1.2.1; omega)
      · refine ok_aload_n 27 rfl rfl rfl (ok_getR 28 rfl rfl fl_X12_42 rfl rfl (ok_iload_n 29 rfl rfl rfl (ok_iconst 30 rfl rfl (by decide) (ok_iload 31 rfl rfl rfl (ok_ishl 32 rfl rfl (ok_ior 33 rfl rfl ?_))))))
        rw [e2]
        refine ok_lald 34 rfl rfl rfl (by omega) ?_
        rw [u10]
        refine ok_lconst (w := 0) 35 rfl rfl rfl (by decide) (ok_lcmp_lt 36 37 88 rfl rfl rfl rfl rfl (fun h54 => ?_) (fun h54 => ?_))
        · exact nxt (fun q => by have q9 := (hGS.mp q).1.2.2; omega)
        · have vb : τ 10 (sB S j) ≤ 6399999936 := by
            by_cases q : sB S j = p2 n - 1
            · rw [q, q2]; decide
            · have := (q3 (sB S j) l1 (by omega)).2.2; omega
          refine ok_aload_n 38 rfl rfl rfl (ok_iload_n 39 rfl rfl rfl (ok_iload 40 rfl rfl rfl (ok_callVI (M' := M_Mo_worked) (as := [_, _]) 41 rfl rfl ml_X12_244 (s_Mo_worked u3 (by omega) (by omega)) rfl rfl (Nat.le_of_ble_eq_true rfl) ⟨Nat.le_of_ble_eq_true rfl, Nat.le_of_ble_eq_true rfl⟩ rfl (Nat.le_of_ble_eq_true rfl) (fun σ' z hz => ?_))))
          rw [hz.1, hz.2, u1]; clear hz z σ'
          refine ok_i2l 42 rfl rfl (ok_aload_n 43 rfl rfl rfl (ok_getR 44 rfl rfl fl_X12_42 rfl rfl (ok_iload_n 45 rfl rfl rfl (ok_iconst 46 rfl rfl (by decide) (ok_iload 47 rfl rfl rfl (ok_ishl 48 rfl rfl (ok_ior 49 rfl rfl ?_)))))))
          rw [e2]
          refine ok_lald 50 rfl rfl rfl (by omega) ?_
          rw [u10]
          refine ok_ladd 51 rfl rfl (by first | omega | (simp [up_if]; omega) | (simp [up_if] at *; omega)) (ok_aload_n 52 rfl rfl rfl (ok_getR 53 rfl rfl fl_X12_42 rfl rfl (ok_iload_n 54 rfl rfl rfl (ok_lald 55 rfl rfl rfl (by omega) ?_))))
          rw [u10]
          refine ok_lcmp_eq 56 57 94 rfl rfl rfl rfl rfl (fun h84 => ?_) (fun h84 => ?_)
          · have hok : G S j := hGS.mpr ⟨⟨hb, by omega, by omega⟩, by omega⟩
            refine ok_aload_n 60 rfl rfl rfl (ok_getR 61 rfl rfl fl_X12_45 rfl rfl (ok_iload_n 62 rfl rfl rfl (ok_iload 63 rfl rfl rfl (ok_iast 64 rfl rfl rfl (by first | omega | (simp [up_if]; omega) | (simp [up_if] at *; omega)) (ok_iload_n 65 rfl rfl rfl (ok_iconst 66 rfl rfl (by decide) (ok_iload 67 rfl rfl rfl (ok_ishl 68 rfl rfl (ok_ior 69 rfl rfl (ok_ist2 70 rfl rfl rfl (ok_inc3 71 rfl rfl rfl (by first | omega | (simp [up_if]; omega) | (simp [up_if] at *; omega)) (ok_goto 72 10 rfl rfl rfl ?_))))))))))))
            rw [e2]
            have ecs : ∀ k : Int, 0 ≤ k → k ≤ i → cs (fun q => up ρ 11 i j 11 q) k.toNat = cs (fun q => ρ 11 q) k.toNat := fun k a b => cs_cg (fun q a' b' => by rw [up_nk _ _ _ _ (by omega)])
            have ec1 : cs (fun q => up ρ 11 i j 11 q) (i + 1).toNat = sB S j := by
              rw [cs_s _ k1, ecs i k1 (Int.le_refl _), ← eS, up_same]
            have hfin := ih (i + 1) (up ρ 11 i j) ⟨by omega, by omega, fr_up k3 rfl, by rw [ec1]; omega, fun k a b => ?_⟩ (by omega)
            · rw [ec1] at hfin
              exact ok_fg [some (vr 0), some (vi l), some (vi (sB S j)), some (vi (i + 1)), none] ⟨rfl, rfl, rfl, rfl, trivial⟩ hfin
            · rw [ecs k a (by omega)]
              by_cases q : k = i
              · rw [q, up_same, ← eS]
                exact ⟨j1, j2, hok, j3⟩
              · rw [up_nk _ _ _ _ q]
                exact k8 k a (by omega)
          · exact nxt (fun q => h84 (hGS.mp q).2)
