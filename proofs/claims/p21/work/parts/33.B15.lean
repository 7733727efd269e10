def wo (σ : eS) (s n j : Int) : eS := fun c k => if c = 0 ∧ k = 22 then n else if c = 9 ∧ 0 ≤ k ∧ k < j then σ 3 (64 * s + k) else σ c k
theorem wo_0 (σ : eS) (s n : Int) : up σ 0 22 n = wo σ s n 0 := by
  funext c k
  simp only [up_if, wo]
  by_cases h : c = 0 ∧ k = 22
  · rw [if_pos h, if_pos h]
  · rw [if_neg h, if_neg h, if_neg (by omega)]
theorem wo_s {σ : eS} {s n j : Int} (h : 0 ≤ j) : up (wo σ s n j) 9 j (σ 3 (64 * s + j)) = wo σ s n (j + 1) := by
  funext c k
  simp only [up_if, wo]
  by_cases h1 : c = 9 ∧ k = j
  · rw [if_pos h1, if_neg (by omega), if_pos ⟨h1.1, by omega, by omega⟩, h1.2]
  · rw [if_neg h1]
    by_cases h2 : c = 0 ∧ k = 22
    · rw [if_pos h2, if_pos h2]
    · rw [if_neg h2, if_neg h2]
      by_cases h3 : c = 9 ∧ 0 ≤ k ∧ k < j
      · rw [if_pos h3, if_pos ⟨h3.1, by omega, by omega⟩]
      · rw [if_neg h3, if_neg (by omega)]
theorem s_Mo_worksOn {σ : eS} {s : Int} (hB : iB1 σ) (hs : tabB σ s) : MtV shB M_Mo_worksOn [vr 0, vi s] σ (fun σ' => σ' = wo σ s (σ 1 s) (σ 1 s * σ 1 s)) := by
  refine Mt.of okM_Mo_worksOn (Nat.le_of_ble_eq_true rfl) (fun hk hg => ?_)
  obtain ⟨s1, s2, s3⟩ := id hs
  obtain ⟨g1, g2, -⟩ := hB.1 s s1 s2
  obtain ⟨n, en⟩ : ∃ x, x = σ 1 s := ⟨_, rfl⟩
  rw [← en] at s3 g1 g2 ⊢
  obtain ⟨q1, q2⟩ := sq8 (n := n) ⟨by omega, by omega⟩
  refine ok_aload_n 0 rfl rfl rfl (ok_aload_n 1 rfl rfl rfl (ok_getR 2 rfl rfl fl_X12_7 rfl rfl (ok_iload_n 3 rfl rfl rfl (ok_iald 4 rfl rfl rfl (by first | omega | (simp [up_if]; omega) | (simp [up_if] at *; omega)) (ok_putI 5 rfl rfl fl_X12_234 rfl rfl rfl rfl ?_)))))
  rw [← en, wo_0 σ s n]
  refine ok_iconst 6 rfl rfl (by decide) (ok_ist2 7 rfl rfl rfl ?_)
  refine lpO (fun j : Int => [some (vr 0), some (vi s), some (vi j)]) (fun j => wo σ s n j) (fun j => 0 ≤ j ∧ j ≤ n * n) (fun j => (n * n - j).toNat) ?_ 0 ⟨by omega, by omega⟩
  rintro j ⟨j1, j2⟩ ih
  have e22 : wo σ s n j 0 22 = n := by simp [wo]
  have e3 : ∀ k, wo σ s n j 3 k = σ 3 k := fun k => by simp [wo]
  refine ok_iload_n 8 rfl rfl rfl (ok_aload_n 9 rfl rfl rfl (ok_getI 10 rfl rfl fl_X12_234 rfl rfl (Or.inl rfl) (ok_aload_n 11 rfl rfl rfl (ok_getI 12 rfl rfl fl_X12_234 rfl rfl (Or.inl rfl) (ok_imul 13 rfl rfl (by rw [e22]; omega) ?_)))))
  rw [e22]
  refine ok_icmp_ge 14 48 rfl rfl rfl (fun h22 => ?_) (fun h22 => ?_)
  · refine ok_vret 29 rfl rfl rfl ?_
    exact ⟨rfl, by rw [show j = n * n by omega]⟩
  · refine ok_aload_n 15 rfl rfl rfl (ok_getR 16 rfl rfl fl_X12_39 rfl rfl (ok_iload_n 17 rfl rfl rfl (ok_aload_n 18 rfl rfl rfl (ok_getR 19 rfl rfl fl_X12_16 rfl rfl (ok_bipush 20 rfl rfl (by decide) (by decide) (ok_iload_n 21 rfl rfl rfl (ok_imul 22 rfl rfl (by first | omega | (simp [up_if]; omega) | (simp [up_if] at *; omega)) (ok_iload_n 23 rfl rfl rfl (ok_iadd 24 rfl rfl (by first | omega | (simp [up_if]; omega) | (simp [up_if] at *; omega)) (ok_iald 25 rfl rfl rfl (by first | omega | (simp [up_if]; omega) | (simp [up_if] at *; omega)) (ok_iast 26 rfl rfl rfl (by first | omega | (simp [up_if]; omega) | (simp [up_if] at *; omega)) (ok_inc2 27 rfl rfl rfl (by first | omega | (simp [up_if]; omega) | (simp [up_if] at *; omega)) (ok_goto 28 12 rfl rfl rfl ?_)))))))))))))
    rw [e3, wo_s j1]
    exact ih (j + 1) ⟨by omega, by omega⟩ (by omega)
theorem s_Mo_isLeft {σ : eS} (h : nW σ) : MtI shB M_Mo_isLeft [vr 0] σ (fun σ' z => σ' = σ ∧ ((z = 1 ∧ ∃ k, 0 ≤ k ∧ k < σ 0 22 * σ 0 22 ∧ 0 < σ 9 k) ∨ (z = 0 ∧ ∀ k, 0 ≤ k → k < σ 0 22 * σ 0 22 → σ 9 k ≤ 0))) := by
  refine Mt.of okM_Mo_isLeft (Nat.le_of_ble_eq_true rfl) (fun hk hg => ?_)
  obtain ⟨n, en⟩ : ∃ x, x = σ 0 22 := ⟨_, rfl⟩
  have hn : 1 ≤ n ∧ n ≤ 8 := by rw [en]; exact h
  obtain ⟨q1, q2⟩ := sq8 (n := n) ⟨by omega, by omega⟩
  rw [← en]
  refine ok_iconst 0 rfl rfl (by decide) (ok_ist1 1 rfl rfl rfl ?_)
  refine lpO (fun j : Int => [some (vr 0), some (vi j)]) (fun _ => σ) (fun j => 0 ≤ j ∧ j ≤ n * n ∧ ∀ k, 0 ≤ k → k < j → σ 9 k ≤ 0) (fun j => (n * n - j).toNat) ?_ 0 ⟨by omega, by omega, fun k a b => by omega⟩
  rintro j ⟨j1, j2, j3⟩ ih
  refine ok_iload_n 2 rfl rfl rfl (ok_aload_n 3 rfl rfl rfl (ok_getI 4 rfl rfl fl_X12_234 rfl rfl (Or.inl rfl) (ok_aload_n 5 rfl rfl rfl (ok_getI 6 rfl rfl fl_X12_234 rfl rfl (Or.inl rfl) (ok_imul 7 rfl rfl (by rw [← en]; omega) ?_)))))
  rw [← en]
  refine ok_icmp_ge 8 32 rfl rfl rfl (fun h12 => ?_) (fun h12 => ?_)
  · refine ok_iconst 18 rfl rfl (by decide) (ok_zret 19 rfl rfl rfl (by first | omega | (simp [up_if]; omega) | (simp [up_if] at *; omega)) ?_)
    exact ⟨_, rfl, rfl, Or.inr ⟨rfl, fun k a b => j3 k a (by omega)⟩⟩
  · refine ok_aload_n 9 rfl rfl rfl (ok_getR 10 rfl rfl fl_X12_39 rfl rfl (ok_iload_n 11 rfl rfl rfl (ok_iald 12 rfl rfl rfl (by first | omega | (simp [up_if]; omega) | (simp [up_if] at *; omega)) (ok_if_le 13 26 rfl rfl rfl (fun h21 => ?_) (fun h21 => ?_)))))
    · refine ok_inc1 16 rfl rfl rfl (by first | omega | (simp [up_if]; omega) | (simp [up_if] at *; omega)) (ok_goto 17 2 rfl rfl rfl ?_)
      exact ih (j + 1) ⟨by omega, by omega, lt_ext j3 h21⟩ (by omega)
    · refine ok_iconst 14 rfl rfl (by decide) (ok_zret 15 rfl rfl rfl (by first | omega | (simp [up_if]; omega) | (simp [up_if] at *; omega)) ?_)
      exact ⟨_, rfl, rfl, Or.inl ⟨rfl, j, j1, by omega, h21⟩⟩
/-! what the greatest sums and least cells tell -/
theorem dp_ge {n l sums : Int} {w : Int → Int → Int} {v : Int → Int} (hn : 1 ≤ n ∧ n ≤ 8) (hw : ∀ i j, 0 ≤ i → i < n → 0 ≤ j → j < n → 0 ≤ w i j) (ha : v (p2 n - 1) = (if sums = 0 then 9223372036854775807 else 0)) (hd : ∀ T, 0 ≤ T → T < p2 n - 1 → dpG n l sums w v T) :
    ∀ (m : Nat) (T : Int), 0 ≤ T → T < p2 n → (n - pc T).toNat = m → cpl n (fun i j => l ≤ w i j) m T → 0 ≤ v T ∧ (sums = 0 → 1 ≤ l → 1 ≤ v T) := by
  obtain ⟨z1, z2, z3, z4⟩ := bit2 (n := n) (by omega)
  intro m
  induction m with
  | zero =>
    intro T h1 h2 h3 _
    have : T = p2 n - 1 := by
      by_cases q : T = p2 n - 1
      · exact q
      · have := (bitL (s := T) (n := n) (by omega) (by omega)).1 (by omega); omega
    rw [this, ha]
    split
    · exact ⟨by decide, fun _ _ => by decide⟩
    · exact ⟨by decide, fun q => by omega⟩
  | succ m ih =>
    intro T h1 h2 h3 ⟨j, a1, a2, a3, a4, a5⟩
    have hp := bitL (s := T) (n := n) (by omega) (by omega)
    have hT : T < p2 n - 1 := by
      by_cases q : T = p2 n - 1
      · have := hp.2.1 q; omega
      · omega
    have hlt := hp.1 hT
    have hc := bitC (s := T) (j := j) (by omega) (by omega) a3
    have hs := sB_lt (s := T) (j := j) (n := n) ⟨h1, h2⟩ ⟨a1, a2⟩
    have e : n - ((m + 1 : Nat) : Int) = pc T := by omega
    rw [e] at a4
    have hi := ih (sB T j) hs.1 hs.2 (by omega) a5
    have hg := (hd T h1 hT).1 j a1 a2 ⟨a3, a4, hi.1⟩
    have hwn := hw (pc T) j hp.2.2.1 hlt a1 a2
    unfold cmbG at hg
    split at hg
    · next q =>
      refine ⟨by omega, fun _ hl => ?_⟩
      have := hi.2 q hl
      omega
    · next q => exact ⟨by omega, fun y => absurd y q⟩
theorem dp_le {n l : Int} {w : Int → Int → Int} {v : Int → Int} {x : Int} (hx : 1 ≤ x) (hn : 1 ≤ n ∧ n ≤ 8) (hd : ∀ T, 0 ≤ T → T < p2 n - 1 → dpG n l 0 w v T) :
    ∀ (m : Nat) (T : Int), 0 ≤ T → T < p2 n → (n - pc T).toNat = m → x ≤ v T → cpl n (fun i j => x ≤ w i j) m T := by
  obtain ⟨z1, z2, z3, z4⟩ := bit2 (n := n) (by omega)
  intro m
  induction m with
  | zero => intro T h1 h2 h3 _; trivial
  | succ m ih =>
    intro T h1 h2 h3 h4
    have hp := bitL (s := T) (n := n) (by omega) (by omega)
    have hT : T < p2 n - 1 := by
      by_cases q : T = p2 n - 1
      · have := hp.2.1 q; omega
      · omega
    have hlt := hp.1 hT
    rcases (hd T h1 hT).2 with q | ⟨j, a1, a2, a3, a4⟩
    · have := q.1; omega
    · have hc := bitC (s := T) (j := j) (by omega) (by omega) a3.1
      have hs := sB_lt (s := T) (j := j) (n := n) ⟨h1, h2⟩ ⟨a1, a2⟩
      unfold cmbG at a4
      rw [if_pos rfl] at a4
      have e : n - ((m + 1 : Nat) : Int) = pc T := by omega
      refine ⟨j, a1, a2, a3.1, ?_, ih (sB T j) hs.1 hs.2 (by omega) (by omega)⟩
      dsimp only
      rw [e]
      omega
theorem cpl_mono {n : Int} {op op' : Int → Int → Prop} (h : ∀ i j, 0 ≤ i → i < n → 0 ≤ j → j < n → op i j → op' i j) : ∀ (m : Nat) (T : Int), (m : Int) ≤ n → cpl n op m T → cpl n op' m T := by
  intro m
  induction m with
  | zero => intro T _ _; trivial
  | succ m ih =>
    intro T hm ⟨j, a1, a2, a3, a4, a5⟩
    exact ⟨j, a1, a2, a3, h _ j (by omega) (by omega) a1 a2 a4, ih _ (by omega) a5⟩
/-- a choice of cells that are so much at least -/
def chB (σ : eS) (n l : Int) (ch : Int → Int) : Prop := perm n ch ∧ ∀ i, 0 ≤ i → i < n → l ≤ wk σ i (ch i)
theorem s_Mo_chooseGreatest {σ : eS} {l : Int} (h : nW σ) (hw : wBd σ) (hl : 0 ≤ l) (hc : cpl (σ 0 22) (fun i j => l ≤ wk σ i j) (σ 0 22).toNat 0) : MtL shB M_Mo_chooseGreatest [vr 0, vi l] σ (fun σ' z => fr (fun c _ => c = 10 ∨ c = 11) σ σ' ∧ z = σ' 10 0 ∧ chB σ (σ 0 22) l (fun i => σ' 11 i)) := by
  refine Mt.of okM_Mo_chooseGreatest (Nat.le_of_ble_eq_true rfl) (fun hk hg => ?_)
  obtain ⟨n, en⟩ : ∃ x, x = σ 0 22 := ⟨_, rfl⟩
  have hn : 1 ≤ n ∧ n ≤ 8 := by rw [en]; exact h
  obtain ⟨z1, z2, z3, z4⟩ := bit2 (n := n) (by omega)
  have z4 := z4 hn.1
  rw [← en] at hc ⊢
  have hwb : ∀ i j, 0 ≤ i → i < n → 0 ≤ j → j < n → 0 ≤ wk σ i j ∧ wk σ i j ≤ 799999992 := fun i j a1 a2 a3 a4 => hw i j a1 (by omega) a3 (by omega)
  refine ok_aload_n 0 rfl rfl rfl (ok_iload_n 1 rfl rfl rfl (ok_iconst 2 rfl rfl (by decide) (ok_callVV (M' := M_Mo_laysCan) (as := [_, _]) 3 rfl rfl ml_X12_256 (s_Mo_laysCan h hw hl (Or.inr rfl)) rfl rfl (Nat.le_of_ble_eq_true rfl) ⟨Nat.le_of_ble_eq_true rfl, Nat.le_of_ble_eq_true rfl⟩ rfl (Nat.le_of_ble_eq_true rfl) (fun τ hq => ?_))))
  rw [← en] at hq
  obtain ⟨q1, q2, q3⟩ := hq
  rw [if_neg (by decide)] at q2
  have hv0 : 0 ≤ τ 10 0 := (dp_ge (sums := 1) (v := fun k => τ 10 k) hn (fun i j a b c d => (hwb i j a b c d).1) q2 (fun T a b => (q3 T a b).1) n.toNat 0 (by omega) (by omega) (by simp [pc]) hc).1
  refine ok_iconst 4 rfl rfl (by decide) (ok_ist2 5 rfl rfl rfl (ok_iconst 6 rfl rfl (by decide) (ok_ist3 7 rfl rfl rfl ?_)))
  refine lpO2 (fun (i : Int) (ρ : eS) => [some (vr 0), some (vi l), some (vi (cs (fun i => ρ 11 i) i.toNat)), some (vi i), none]) (fun _ ρ => ρ) (fun i ρ => 0 ≤ i ∧ i ≤ n ∧ fr (fun c _ => c = 11) τ ρ ∧ 0 ≤ cs (fun i => ρ 11 i) i.toNat ∧ cs (fun i => ρ 11 i) i.toNat < p2 n ∧ pc (cs (fun i => ρ 11 i) i.toNat) = i ∧ 0 ≤ τ 10 (cs (fun i => ρ 11 i) i.toNat) ∧ ∀ k : Int, 0 ≤ k → k < i → 0 ≤ ρ 11 k ∧ ρ 11 k < n ∧ l ≤ wk σ k (ρ 11 k) ∧ bt (cs (fun i => ρ 11 i) k.toNat) (ρ 11 k) = false) (fun i _ => (n - i).toNat) ?_ 0 τ ⟨by omega, by omega, fr.rf, Int.le_refl _, by show (0 : Int) < p2 n; omega, by show pc 0 = 0; simp [pc], hv0, fun k a b => by omega⟩
  rintro i ρ ⟨k1, k2, k3, k4, k5, k6, k7, k8⟩ ih
  obtain ⟨S, eS⟩ : ∃ x, x = cs (fun i => ρ 11 i) i.toNat := ⟨_, rfl⟩
  rw [← eS] at k4 k5 k6 k7 ⊢
  have f1 : fr (fun c _ => c = 10 ∨ c = 11) σ ρ := fun c k q => by rw [k3 c k (by omega), q1 c k (by omega)]
  have u2 : ρ 0 22 = n := by rw [f1 0 22 (by omega), en]
  have u3 : nW ρ := h.fr' (by rw [u2, en])
  have u1 : wk ρ = wk σ := by funext a b; unfold wk; rw [f1 0 22 (by omega), f1 9 _ (by omega)]
  have u10 : ∀ k, ρ 10 k = τ 10 k := fun k => k3 10 k (by omega)
  refine ok_iload_n 8 rfl rfl rfl (ok_aload_n 9 rfl rfl rfl (ok_getI 10 rfl rfl fl_X12_234 rfl rfl (Or.inl rfl) (ok_icmp_ge 11 115 rfl rfl rfl (fun h15 => ?_) (fun h15 => ?_))))
  · refine ok_aload_n 73 rfl rfl rfl (ok_getR 74 rfl rfl fl_X12_42 rfl rfl (ok_iconst 75 rfl rfl (by decide) (ok_lald 76 rfl rfl rfl (by first | omega | (simp [up_if]; omega) | (simp [up_if] at *; omega)) (ok_lret 77 rfl rfl rfl ?_))))
    refine ⟨_, rfl, f1, rfl, ⟨fun k a b => ?_, fun a b c d e q => ?_⟩, fun k a b => ?_⟩
    · have := k8 k a (by omega); exact ⟨this.1, this.2.1⟩
    · have x1 := (k8 b (by omega) (by omega)).2.2.2
      have x2 : bt (cs (fun i => ρ 11 i) b.toNat) (ρ 11 b) = true := (bt_cs (fun j x y => (k8 j x (by omega)).1) (k8 b (by omega) (by omega)).1).mpr ⟨a, c, by omega, q⟩
      rw [x1] at x2
      cases x2
    · exact (k8 k a (by omega)).2.2.1
  · refine ok_iconst 12 rfl rfl (by decide) (ok_ist4 13 rfl rfl rfl ?_)
    have hin : i < n := by omega
    have hS : S < p2 n - 1 := by
      by_cases q : S = p2 n - 1
      · have := (bitL (s := S) (n := n) (by omega) (by omega)).2.1 q; omega
      · omega
    have hex : ∃ j, 0 ≤ j ∧ j < n ∧ okG n l (wk σ) (fun k => τ 10 k) S j ∧ τ 10 S = wk σ i j + τ 10 (sB S j) := by
      rcases (q3 S k4 hS).1.2 with q | ⟨j, a1, a2, a3, a4⟩
      · have q5 : τ 10 S = -1 := q.1
        omega
      · refine ⟨j, a1, a2, a3, ?_⟩
        unfold cmbG at a4
        rw [if_neg (by decide), k6] at a4
        exact a4
    refine lpO (fun j : Int => [some (vr 0), some (vi l), some (vi S), some (vi i), some (vi j)]) (fun _ => ρ) (fun j => 0 ≤ j ∧ j < n ∧ ∀ j', 0 ≤ j' → j' < j → ¬ (okG n l (wk σ) (fun k => τ 10 k) S j' ∧ τ 10 S = wk σ i j' + τ 10 (sB S j'))) (fun j => (n - j).toNat) ?_ 0 ⟨by omega, by omega, fun j' a b => by omega⟩
    rintro j ⟨j1, j2, j3⟩ ih2
    have e1 := bitG (s := S) (j := j) (by omega) (by omega)
    have e2 := bitP (s := S) (j := j) (by omega) (by omega)
    obtain ⟨l1, l2⟩ := sB_lt (s := S) (j := j) (n := n) ⟨k4, k5⟩ ⟨j1, j2⟩
    have wb := hwb i j k1 hin j1 j2
    have nxt : ¬ (okG n l (wk σ) (fun k => τ 10 k) S j ∧ τ 10 S = wk σ i j + τ 10 (sB S j)) → Ok shB M_Mo_chooseGreatest 88 [some (vr 0), some (vi l), some (vi S), some (vi i), some (vi j)] [] ρ (fun σ' v => ∃ z, v = some (vl z) ∧ fr (fun c _ => c = 10 ∨ c = 11) σ σ' ∧ z = σ' 10 0 ∧ chB σ n l (fun i => σ' 11 i)) := by
      intro hno
      have hj : j + 1 < n := by
        obtain ⟨j', a1, a2, a3, a4⟩ := hex
        by_cases q : j' < j
        · exact absurd ⟨a3, a4⟩ (j3 j' a1 q)
        · by_cases q' : j' = j
          · rw [q'] at a3 a4; exact absurd ⟨a3, a4⟩ hno
          · omega
      clear hex
      refine ok_inc4 58 rfl rfl rfl (by first | omega | (simp [up_if]; omega) | (simp [up_if] at *; omega)) (ok_goto 59 21 rfl rfl rfl ?_)
      exact ih2 (j + 1) ⟨by omega, hj, lt_ext j3 hno⟩ (by omega)
    clear hex
    refine ok_iload_n 14 rfl rfl rfl (ok_iload 15 rfl rfl rfl (ok_ishr 16 rfl rfl (ok_iconst 17 rfl rfl (by decide) (ok_iand 18 rfl rfl ?_))))
    rw [e1]
    refine ok_iconst 19 rfl rfl (by decide) (ok_icmp_eq 20 88 rfl rfl rfl (fun h28 => ?_) (fun h28 => ?_))
    · exact nxt (fun q => by have q1 := q.1.1; rw [b1'.mp h28] at q1; cases q1)
    · have hb : bt S j = false := by
        cases hq : bt S j with
        | false => rfl
        | true => exact absurd (b1'.mpr hq) h28
      have hcp := bitC (s := S) (j := j) (by omega) (by omega) hb
      refine ok_aload_n 21 rfl rfl rfl (ok_iload_n 22 rfl rfl rfl (ok_iload 23 rfl rfl rfl (ok_callVI (M' := M_Mo_worked) (as := [_, _]) 24 rfl rfl ml_X12_244 (s_Mo_worked u3 (by omega) (by omega)) rfl rfl (Nat.le_of_ble_eq_true rfl) ⟨Nat.le_of_ble_eq_true rfl, Nat.le_of_ble_eq_true rfl⟩ rfl (Nat.le_of_ble_eq_true rfl) (fun σ' z hz => ?_))))
      rw [hz.1, hz.2, u1]; clear hz z σ'
      refine ok_iload_n 25 rfl rfl rfl (ok_icmp_lt 26 88 rfl rfl rfl (fun h39 => ?_) (fun h39 => ?_))
      · exact nxt (fun q => by have := q.1.2.1; rw [k6] at this; omega)
      · refine ok_aload_n 27 rfl rfl rfl (ok_getR 28 rfl rfl fl_X12_42 rfl rfl (ok_iload_n 29 rfl rfl rfl (ok_iconst 30 rfl rfl (by decide) (ok_iload 31 rfl rfl rfl (ok_ishl 32 rfl rfl (ok_ior 33 rfl rfl ?_))))))
        rw [e2]
        refine ok_lald 34 rfl rfl rfl (by omega) ?_
        rw [u10]
        refine ok_lconst (w := 0) 35 rfl rfl rfl (by decide) (ok_lcmp_lt 36 37 88 rfl rfl rfl rfl rfl (fun h54 => ?_) (fun h54 => ?_))
        · exact nxt (fun q => by have q9 : 0 ≤ τ 10 (sB S j) := q.1.2.2; omega)
        · have vb : τ 10 (sB S j) ≤ 6399999936 := by
            by_cases q : sB S j = p2 n - 1
            · rw [q, q2]; decide
            · have := (q3 (sB S j) l1 (by omega)).2.2; omega
          refine ok_aload_n 38 rfl rfl rfl (ok_iload_n 39 rfl rfl rfl (ok_iload 40 rfl rfl rfl (ok_callVI (M' := M_Mo_worked) (as := [_, _]) 41 rfl rfl ml_X12_244 (s_Mo_worked u3 (by omega) (by omega)) rfl rfl (Nat.le_of_ble_eq_true rfl) ⟨Nat.le_of_ble_eq_true rfl, Nat.le_of_ble_eq_true rfl⟩ rfl (Nat.le_of_ble_eq_true rfl) (fun σ' z hz => ?_))))
          rw [hz.1, hz.2, u1]; clear hz z σ'
          refine ok_i2l 42 rfl rfl (ok_aload_n 43 rfl rfl rfl (ok_getR 44 rfl rfl fl_X12_42 rfl rfl (ok_iload_n 45 rfl rfl rfl (ok_iconst 46 rfl rfl (by decide) (ok_iload 47 rfl rfl rfl (ok_ishl 48 rfl rfl (ok_ior 49 rfl rfl ?_)))))))
          rw [e2]
          refine ok_lald 50 rfl rfl rfl (by omega) ?_
          rw [u10]
          refine ok_ladd 51 rfl rfl (by first | omega | (simp [up_if]; omega) | (simp [up_if] at *; omega)) (ok_aload_n 52 rfl rfl rfl (ok_getR 53 rfl rfl fl_X12_42 rfl rfl (ok_iload_n 54 rfl rfl rfl (ok_lald 55 rfl rfl rfl (by omega) ?_))))
          rw [u10]
          refine ok_lcmp_eq 56 57 94 rfl rfl rfl rfl rfl (fun h84 => ?_) (fun h84 => ?_)
          · have hok : l ≤ wk σ i j := by omega
            refine ok_aload_n 60 rfl rfl rfl (ok_getR 61 rfl rfl fl_X12_45 rfl rfl (ok_iload_n 62 rfl rfl rfl (ok_iload 63 rfl rfl rfl (ok_iast 64 rfl rfl rfl (by first | omega | (simp [up_if]; omega) | (simp [up_if] at *; omega)) (ok_iload_n 65 rfl rfl rfl (ok_iconst 66 rfl rfl (by decide) (ok_iload 67 rfl rfl rfl (ok_ishl 68 rfl rfl (ok_ior 69 rfl rfl (ok_ist2 70 rfl rfl rfl (ok_inc3 71 rfl rfl rfl (by first | omega | (simp [up_if]; omega) | (simp [up_if] at *; omega)) (ok_goto 72 10 rfl rfl rfl ?_))))))))))))
            rw [e2]
            have ecs : ∀ k : Int, 0 ≤ k → k ≤ i → cs (fun q => up ρ 11 i j 11 q) k.toNat = cs (fun q => ρ 11 q) k.toNat := fun k a b => cs_cg (fun q a' b' => by rw [up_nk _ _ _ _ (by omega)])
            have ec1 : cs (fun q => up ρ 11 i j 11 q) (i + 1).toNat = sB S j := by
              rw [cs_s _ k1, ecs i k1 (Int.le_refl _), ← eS, up_same]
            have hfin := ih (i + 1) (up ρ 11 i j) ⟨by omega, by omega, fr_up k3 rfl, by rw [ec1]; exact l1, by rw [ec1]; exact l2, by rw [ec1]; omega, by rw [ec1]; omega, fun k a b => ?_⟩ (by omega)
            · rw [ec1] at hfin
              exact ok_fg [some (vr 0), some (vi l), some (vi (sB S j)), some (vi (i + 1)), none] ⟨rfl, rfl, rfl, rfl, trivial⟩ hfin
            · rw [ecs k a (by omega)]
              by_cases q : k = i
              · rw [q, up_same, ← eS]
                exact ⟨j1, j2, hok, hb⟩
              · rw [up_nk _ _ _ _ q]
                exact k8 k a (by omega)
          · exact nxt (fun q => h84 q.2.symm)
