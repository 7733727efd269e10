/-! the greatest: what is left of the rows, by sets of columns -/
/-- a column j that may follow the set T: free, great enough, and the rest has a choice -/
def okG (n l : Int) (w : Int → Int → Int) (v : Int → Int) (T j : Int) : Prop := bt T j = false ∧ l ≤ w (pc T) j ∧ 0 ≤ v (sB T j)
def cmbG (sums : Int) (a b : Int) : Int := if sums = 0 then min a b else a + b
def dpG (n l sums : Int) (w : Int → Int → Int) (v : Int → Int) (T : Int) : Prop := (∀ j, 0 ≤ j → j < n → okG n l w v T j → cmbG sums (w (pc T) j) (v (sB T j)) ≤ v T) ∧ ((v T = -1 ∧ ∀ j, 0 ≤ j → j < n → ¬ okG n l w v T j) ∨ ∃ j, 0 ≤ j ∧ j < n ∧ okG n l w v T j ∧ v T = cmbG sums (w (pc T) j) (v (sB T j)))
def dpP (n l sums : Int) (w : Int → Int → Int) (v : Int → Int) (T j : Int) : Prop := (v T = -1 ∧ ∀ j', 0 ≤ j' → j' < j → ¬ okG n l w v T j') ∨ ∃ j', 0 ≤ j' ∧ j' < n ∧ okG n l w v T j' ∧ v T = cmbG sums (w (pc T) j') (v (sB T j'))
def wBd (σ : eS) : Prop := ∀ i j, 0 ≤ i → i < σ 0 22 → 0 ≤ j → j < σ 0 22 → 0 ≤ wk σ i j ∧ wk σ i j ≤ 799999992
def Qlc (σ : eS) (n l sums : Int) (σ' : eS) : Prop := fr (fun c _ => c = 10) σ σ' ∧ σ' 10 (p2 n - 1) = (if sums = 0 then 9223372036854775807 else 0) ∧ ∀ T, 0 ≤ T → T < p2 n - 1 → dpG n l sums (wk σ) (fun k => σ' 10 k) T ∧ -1 ≤ σ' 10 T ∧ σ' 10 T ≤ 799999992 * 8
theorem s_Mo_laysCan {σ : eS} {l b : Int} (h : nW σ) (hw : wBd σ) (hl : 0 ≤ l) (hb : b = 0 ∨ b = 1) : MtV shB M_Mo_laysCan [vr 0, vi l, vi b] σ (Qlc σ (σ 0 22) l b) := by
  refine Mt.of okM_Mo_laysCan (Nat.le_of_ble_eq_true rfl) (fun hk hg => ?_)
  obtain ⟨n, en⟩ : ∃ x, x = σ 0 22 := ⟨_, rfl⟩
  have hn : 1 ≤ n ∧ n ≤ 8 := by rw [en]; exact h
  obtain ⟨z1, z2, z3, z4⟩ := bit2 (n := n) (by omega)
  have z4 := z4 hn.1
  rw [← en]
  have hop : ∀ τ : eS, fr (fun c _ => c = 10) σ τ → wk τ = wk σ ∧ τ 0 22 = n ∧ nW τ := fun τ f => by
    have e1 : τ 0 22 = n := by rw [f 0 22 (by omega), en]
    refine ⟨?_, e1, h.fr' (by rw [e1, en])⟩
    funext i j
    unfold wk
    rw [f 0 22 (by omega), f 9 _ (by omega)]
  have hwb : ∀ i j, 0 ≤ i → i < n → 0 ≤ j → j < n → 0 ≤ wk σ i j ∧ wk σ i j ≤ 799999992 := fun i j a1 a2 a3 a4 => hw i j a1 (by omega) a3 (by omega)
  have main : ∀ (τ : eS), fr (fun c _ => c = 10) σ τ → τ 10 (p2 n - 1) = (if b = 0 then 9223372036854775807 else 0) → Ok shB M_Mo_laysCan 26 [some (vr 0), some (vi l), some (vi b), some (vi (p2 n - 1)), none, none, none, none, none] [] τ (fun σ' v => v = none ∧ Qlc σ n l b σ') := by
    intro τ f0 v0
    refine ok_iload_n 16 rfl rfl rfl (ok_iconst 17 rfl rfl (by decide) (ok_isub 18 rfl rfl (by first | omega | (simp [up_if]; omega) | (simp [up_if] at *; omega)) (ok_ist4 19 rfl rfl rfl ?_)))
    refine lpO2 (fun (s : Int) (_ : eS) => [some (vr 0), some (vi l), some (vi b), some (vi (p2 n - 1)), some (vi s), none, none, none, none]) (fun _ τ => τ) (fun s τ => -1 ≤ s ∧ s < p2 n - 1 ∧ fr (fun c _ => c = 10) σ τ ∧ τ 10 (p2 n - 1) = (if b = 0 then 9223372036854775807 else 0) ∧ ∀ T, s < T → T < p2 n - 1 → dpG n l b (wk σ) (fun k => τ 10 k) T ∧ -1 ≤ τ 10 T ∧ τ 10 T ≤ 799999992 * (n - pc T)) (fun s _ => (s + 1).toNat) ?_ (p2 n - 1 - 1) _ ⟨by omega, by omega, f0, v0, fun T a b => by omega⟩
    clear f0 v0 τ
    rintro s τ ⟨i1, i2, i3, i5, i4⟩ ih
    refine ok_iload 20 rfl rfl rfl (ok_if_lt 21 194 rfl rfl rfl (fun h33 => ?_) (fun h33 => ?_))
    · refine ok_vret 107 rfl rfl rfl ?_
      refine ⟨rfl, i3, i5, fun T a b' => ?_⟩
      obtain ⟨y1, y2, y3⟩ := i4 T (by omega) b'
      have := (bitL (s := T) (n := n) (by omega) (by omega)).2.2.1
      exact ⟨y1, y2, by omega⟩
    · refine ok_iload 22 rfl rfl rfl (ok_callSI (M' := M_Mo_bits) (as := [_]) 23 rfl rfl ml_X12_241 (s_Mo_bits (by omega)) ⟨Nat.le_of_ble_eq_true rfl, Nat.le_of_ble_eq_true rfl⟩ rfl (Nat.le_of_ble_eq_true rfl) (fun σ' z hz => ?_))
      rw [hz.1, hz.2]
      clear hz z σ'
      refine ok_ist5 24 rfl rfl rfl ?_
      have hp := (bitL (s := s) (n := n) (by omega) (by omega)).1 (by omega)
      have hp0 := (bitL (s := s) (n := n) (by omega) (by omega)).2.2.1
      refine ok_aload_n 25 rfl rfl rfl (ok_getR 26 rfl rfl fl_X12_42 rfl rfl (ok_iload 27 rfl rfl rfl (ok_ldc2 28 (-1) rfl rfl kc_X12_219 (by decide) (ok_last 29 rfl rfl rfl (by omega) (ok_iconst 30 rfl rfl (by decide) (ok_ist6 31 rfl rfl rfl ?_))))))
      refine lpO2 (fun (j : Int) (_ : eS) => [some (vr 0), some (vi l), some (vi b), some (vi (p2 n - 1)), some (vi s), some (vi (pc s)), some (vi j), none, none]) (fun _ ρ => ρ) (fun j ρ => 0 ≤ j ∧ j ≤ n ∧ fr (fun c _ => c = 10) σ ρ ∧ ρ 10 (p2 n - 1) = (if b = 0 then 9223372036854775807 else 0) ∧ (∀ T, s < T → T < p2 n - 1 → dpG n l b (wk σ) (fun k => ρ 10 k) T ∧ -1 ≤ ρ 10 T ∧ ρ 10 T ≤ 799999992 * (n - pc T)) ∧ -1 ≤ ρ 10 s ∧ ρ 10 s ≤ 799999992 * (n - pc s) ∧ (∀ j', 0 ≤ j' → j' < j → okG n l (wk σ) (fun k => ρ 10 k) s j' → cmbG b (wk σ (pc s) j') (ρ 10 (sB s j')) ≤ ρ 10 s) ∧ dpP n l b (wk σ) (fun k => ρ 10 k) s j) (fun j _ => (n - j).toNat) ?_ 0 _ ⟨by omega, by omega, fr_up i3 rfl, by rw [up_nk _ _ _ _ (by omega)]; exact i5, fun T a b' => ?_, by rw [up_same]; omega, by rw [up_same]; omega, fun j' a b => by omega, Or.inl ⟨up_same _ _ _ _, fun j' a b => by omega⟩⟩
      rotate_left
      · obtain ⟨y1, y2, y3⟩ := i4 T a b'
        refine ⟨?_, by rw [up_nk _ _ _ _ (by omega)]; exact y2, by rw [up_nk _ _ _ _ (by omega)]; exact y3⟩
        have e : ∀ j, 0 ≤ j → j < n → bt T j = false → up τ 10 s (-1) 10 (sB T j) = τ 10 (sB T j) := fun j a1 a2 a3 => by
          have := (bitC (s := T) (j := j) (by omega) (by omega) a3).2
          rw [up_nk _ _ _ _ (by omega)]
        have eT : up τ 10 s (-1) 10 T = τ 10 T := up_nk _ _ _ _ (by omega)
        have eok : ∀ j, 0 ≤ j → j < n → (okG n l (wk σ) (fun k => up τ 10 s (-1) 10 k) T j ↔ okG n l (wk σ) (fun k => τ 10 k) T j) := fun j a1 a2 => by
          unfold okG
          constructor
          · rintro ⟨q1, q2, q3⟩; dsimp only at q3; rw [e j a1 a2 q1] at q3; exact ⟨q1, q2, q3⟩
          · rintro ⟨q1, q2, q3⟩; refine ⟨q1, q2, ?_⟩; dsimp only; rw [e j a1 a2 q1]; exact q3
        refine ⟨fun j a1 a2 a3 => ?_, ?_⟩
        · dsimp only
          rw [eT, e j a1 a2 a3.1]
          exact y1.1 j a1 a2 ((eok j a1 a2).mp a3)
        · dsimp only
          rw [eT]
          rcases y1.2 with q | ⟨j, q1, q2, q3, q4⟩
          · exact Or.inl ⟨q.1, fun j a1 a2 a3 => q.2 j a1 a2 ((eok j a1 a2).mp a3)⟩
          · exact Or.inr ⟨j, q1, q2, (eok j q1 q2).mpr q3, by rw [e j q1 q2 q3.1]; exact q4⟩
      rintro j ρ ⟨j1, j2, j3, jA, j4, j5, j6, j7, j8⟩ ih2
      obtain ⟨u1, u2, u3⟩ := hop ρ j3
      have nxt : j < n → ¬ okG n l (wk σ) (fun k => ρ 10 k) s j → Ok shB M_Mo_laysCan 182 [some (vr 0), some (vi l), some (vi b), some (vi (p2 n - 1)), some (vi s), some (vi (pc s)), some (vi j), none, none] [] ρ (fun σ' v => v = none ∧ Qlc σ n l b σ') := by
        intro hj hno
        refine ok_inc6 103 rfl rfl rfl (by first | omega | (simp [up_if]; omega) | (simp [up_if] at *; omega)) (ok_goto 104 56 rfl rfl rfl ?_)
        refine ih2 (j + 1) ρ ⟨by omega, by omega, j3, jA, j4, j5, j6, lt_ext j7 (fun q => absurd q hno), ?_⟩ (by omega)
        rcases j8 with q | q
        · exact Or.inl ⟨q.1, lt_ext q.2 hno⟩
        · exact Or.inr q
      refine ok_iload 32 rfl rfl rfl (ok_aload_n 33 rfl rfl rfl (ok_getI 34 rfl rfl fl_X12_234 rfl rfl (Or.inl rfl) (ok_icmp_ge 35 188 rfl rfl rfl (fun h62 => ?_) (fun h62 => ?_))))
      · refine ok_inc4 105 rfl rfl rfl (by first | omega | (simp [up_if]; omega) | (simp [up_if] at *; omega)) (ok_goto 106 31 rfl rfl rfl ?_)
        refine ok_fg [some (vr 0), some (vi l), some (vi b), some (vi (p2 n - 1)), some (vi (s + -1)), none, none, none, none] ⟨rfl, rfl, rfl, rfl, rfl, trivial⟩ (ih (s + -1) ρ ⟨by omega, by omega, j3, jA, fun T a b' => ?_⟩ (by omega))
        by_cases q : T = s
        · rw [q]
          refine ⟨⟨fun j' a1 a2 a3 => j7 j' a1 (by omega) a3, ?_⟩, j5, j6⟩
          rcases j8 with y | y
          · exact Or.inl ⟨y.1, fun j' a1 a2 => y.2 j' a1 (by omega)⟩
          · exact Or.inr y
        · exact j4 T (by omega) b'
      · have e1 := bitG (s := s) (j := j) (by omega) (by omega)
        have e2 := bitP (s := s) (j := j) (by omega) (by omega)
        obtain ⟨l1, l2⟩ := sB_lt (s := s) (j := j) (n := n) ⟨by omega, by omega⟩ ⟨by omega, by omega⟩
        have wb := hwb (pc s) j (by omega) (by omega) (by omega) (by omega)
        refine ok_iload 36 rfl rfl rfl (ok_iload 37 rfl rfl rfl (ok_ishr 38 rfl rfl (ok_iconst 39 rfl rfl (by decide) (ok_iand 40 rfl rfl ?_))))
        rw [e1]
        refine ok_iconst 41 rfl rfl (by decide) (ok_icmp_eq 42 182 rfl rfl rfl (fun h73 => ?_) (fun h73 => ?_))
        · exact nxt (by omega) (fun q => by have q1 := q.1; rw [b1'.mp h73] at q1; cases q1)
        · refine ok_aload_n 43 rfl rfl rfl (ok_iload 44 rfl rfl rfl (ok_iload 45 rfl rfl rfl (ok_callVI (M' := M_Mo_worked) (as := [_, _]) 46 rfl rfl ml_X12_244 (s_Mo_worked u3 ⟨by omega, by omega⟩ ⟨by omega, by omega⟩) rfl rfl (Nat.le_of_ble_eq_true rfl) ⟨Nat.le_of_ble_eq_true rfl, Nat.le_of_ble_eq_true rfl⟩ rfl (Nat.le_of_ble_eq_true rfl) (fun σ' z hz => ?_))))
          rw [hz.1, hz.2, u1]; clear hz z σ'
          have hb' : bt s j = false := by
            cases hq : bt s j with
            | false => rfl
            | true => exact absurd (b1'.mpr hq) h73
          obtain ⟨hc1, hc2⟩ := bitC (s := s) (j := j) (by omega) (by omega) hb'
          refine ok_iload_n 47 rfl rfl rfl (ok_icmp_lt 48 182 rfl rfl rfl (fun h85 => ?_) (fun h85 => ?_))
          · exact nxt (by omega) (fun q => by have := q.2.1; omega)
          · refine ok_aload_n 49 rfl rfl rfl (ok_getR 50 rfl rfl fl_X12_42 rfl rfl (ok_iload 51 rfl rfl rfl (ok_iconst 52 rfl rfl (by decide) (ok_iload 53 rfl rfl rfl (ok_ishl 54 rfl rfl (ok_ior 55 rfl rfl ?_))))))
            rw [e2]
            refine ok_lald 56 rfl rfl rfl (by omega) (ok_lconst (w := 0) 57 rfl rfl rfl (by decide) (ok_lcmp_ge 58 59 108 rfl rfl rfl rfl rfl (fun h101 => ?_) (fun h101 => ?_)))
            · have hok : okG n l (wk σ) (fun k => ρ 10 k) s j := ⟨hb', by omega, by omega⟩
              have vb : (b = 1 → ρ 10 (sB s j) ≤ 799999992 * (n - pc s - 1)) ∧ 0 ≤ ρ 10 (sB s j) := by
                refine ⟨fun hb1 => ?_, by omega⟩
                by_cases q : sB s j = p2 n - 1
                · rw [q, jA, if_neg (by omega)]; omega
                · have := (j4 (sB s j) hc2 (by omega)).2.2; omega
              refine ok_iload_n 61 rfl rfl rfl (ok_if_eq 62 137 rfl rfl rfl (fun h109 => ?_) (fun h109 => ?_))
              · refine ok_aload_n 78 rfl rfl rfl (ok_iload 79 rfl rfl rfl (ok_iload 80 rfl rfl rfl (ok_callVI (M' := M_Mo_worked) (as := [_, _]) 81 rfl rfl ml_X12_244 (s_Mo_worked u3 ⟨by omega, by omega⟩ ⟨by omega, by omega⟩) rfl rfl (Nat.le_of_ble_eq_true rfl) ⟨Nat.le_of_ble_eq_true rfl, Nat.le_of_ble_eq_true rfl⟩ rfl (Nat.le_of_ble_eq_true rfl) (fun σ' z hz => ?_))))
                rw [hz.1, hz.2, u1]; clear hz z σ'
                refine ok_i2l 82 rfl rfl (ok_aload_n 83 rfl rfl rfl (ok_getR 84 rfl rfl fl_X12_42 rfl rfl (ok_iload 85 rfl rfl rfl (ok_iconst 86 rfl rfl (by decide) (ok_iload 87 rfl rfl rfl (ok_ishl 88 rfl rfl (ok_ior 89 rfl rfl ?_)))))))
                rw [e2]
                refine ok_lald 90 rfl rfl rfl (by omega) (ok_mminL 91 rfl rfl ml_X12_247 ⟨Nat.le_of_ble_eq_true rfl, Nat.le_of_ble_eq_true rfl⟩ (ok_lst7 92 rfl rfl rfl (ok_aload_n 93 rfl rfl rfl (ok_getR 94 rfl rfl fl_X12_42 rfl rfl (ok_iload 95 rfl rfl rfl (ok_aload_n 96 rfl rfl rfl (ok_getR 97 rfl rfl fl_X12_42 rfl rfl (ok_iload 98 rfl rfl rfl (ok_lald 99 rfl rfl rfl (by omega) (ok_lload 100 rfl rfl rfl (ok_mmaxL 101 rfl rfl ml_X12_250 ⟨Nat.le_of_ble_eq_true rfl, Nat.le_of_ble_eq_true rfl⟩ (ok_last 102 rfl rfl rfl (by omega) (ok_inc6 103 rfl rfl rfl (by first | omega | (simp [up_if]; omega) | (simp [up_if] at *; omega)) (ok_goto 104 56 rfl rfl rfl ?_))))))))))))))
                obtain ⟨X, eX⟩ : ∃ x, x = cmbG b (wk σ (pc s) j) (ρ 10 (sB s j)) := ⟨_, rfl⟩
                have hX : 0 ≤ X ∧ X ≤ 799999992 * (n - pc s) := by
                  rw [eX]; unfold cmbG
                  split
                  · omega
                  · have := vb.1 (by omega); omega
                first | (have eX' : wk σ (pc s) j + ρ 10 (sB s j) = X := by
                           rw [eX]; unfold cmbG; rw [if_neg (by omega)]
                         rw [eX']) | (have eX' : min (wk σ (pc s) j) (ρ 10 (sB s j)) = X := by
                                       rw [eX]; unfold cmbG; rw [if_pos (by omega)]
                                      rw [eX'])
                have ev : ∀ k, s < k → up ρ 10 s (max (ρ 10 s) X) 10 k = ρ 10 k := fun k hk => up_nk _ _ _ _ (by omega)
                have eok : ∀ T j', s ≤ T → T < p2 n - 1 → 0 ≤ j' → j' < n → (okG n l (wk σ) (fun k => up ρ 10 s (max (ρ 10 s) X) 10 k) T j' ↔ okG n l (wk σ) (fun k => ρ 10 k) T j') := fun T j' a0 a1 a2 a3 => by
                  unfold okG
                  constructor
                  · rintro ⟨q1, q2, q3⟩; have := (bitC (s := T) (j := j') (by omega) (by omega) q1).2; dsimp only at q3; rw [ev _ (by omega)] at q3; exact ⟨q1, q2, q3⟩
                  · rintro ⟨q1, q2, q3⟩; have := (bitC (s := T) (j := j') (by omega) (by omega) q1).2; refine ⟨q1, q2, ?_⟩; dsimp only; rw [ev _ (by omega)]; exact q3
                refine ok_fg [some (vr 0), some (vi l), some (vi b), some (vi (p2 n - 1)), some (vi s), some (vi (pc s)), some (vi (j + 1)), none, none] ⟨rfl, rfl, rfl, rfl, rfl, rfl, rfl, trivial⟩ (ih2 (j + 1) _ ⟨by omega, by omega, fr_up j3 rfl, by rw [ev _ (by omega)]; exact jA, fun T a b' => ?_, by rw [up_same]; omega, by rw [up_same]; omega, ?_, ?_⟩ (by omega))
                · obtain ⟨y1, y2, y3⟩ := j4 T a b'
                  refine ⟨⟨fun j' a1 a2 a3 => ?_, ?_⟩, by rw [ev T a]; exact y2, by rw [ev T a]; exact y3⟩
                  · have hh := (eok T j' (by omega) b' a1 a2).mp a3
                    have := (bitC (s := T) (j := j') (by omega) (by omega) hh.1).2
                    dsimp only
                    rw [ev T a, ev _ (by omega)]
                    exact y1.1 j' a1 a2 hh
                  · dsimp only
                    rw [ev T a]
                    rcases y1.2 with q | ⟨j', q1, q2, q3, q4⟩
                    · exact Or.inl ⟨q.1, fun j' a1 a2 a3 => q.2 j' a1 a2 ((eok T j' (by omega) b' a1 a2).mp a3)⟩
                    · have := (bitC (s := T) (j := j') (by omega) (by omega) q3.1).2
                      exact Or.inr ⟨j', q1, q2, (eok T j' (by omega) b' q1 q2).mpr q3, by rw [ev _ (by omega)]; exact q4⟩
                · intro j' a1 a2 a3
                  have hh := (eok s j' (Int.le_refl _) (by omega) a1 (by omega)).mp a3
                  have h8 := (bitC (s := s) (j := j') (by omega) (by omega) hh.1).2
                  rw [up_same, ev _ h8]
                  by_cases q : j' = j
                  · rw [q, ← eX]; omega
                  · have := j7 j' a1 (by omega) hh; omega
                · unfold dpP
                  dsimp only
                  rw [up_same]
                  by_cases q : ρ 10 s < X
                  · refine Or.inr ⟨j, j1, by omega, (eok s j (Int.le_refl _) (by omega) j1 (by omega)).mpr hok, ?_⟩
                    rw [ev _ hc2, ← eX]; omega
                  · rcases j8 with y | ⟨j', q1, q2, q3, q4⟩
                    · have y1 : ρ 10 s = -1 := y.1
                      omega
                    · have h8 := (bitC (s := s) (j := j') (by omega) (by omega) q3.1).2
                      refine Or.inr ⟨j', q1, q2, (eok s j' (Int.le_refl _) (by omega) q1 q2).mpr q3, ?_⟩
                      have q5 : ρ 10 s = cmbG b (wk σ (pc s) j') (ρ 10 (sB s j')) := q4
                      rw [ev _ h8, ← q5]; omega
              · refine ok_aload_n 63 rfl rfl rfl (ok_iload 64 rfl rfl rfl (ok_iload 65 rfl rfl rfl (ok_callVI (M' := M_Mo_worked) (as := [_, _]) 66 rfl rfl ml_X12_244 (s_Mo_worked u3 ⟨by omega, by omega⟩ ⟨by omega, by omega⟩) rfl rfl (Nat.le_of_ble_eq_true rfl) ⟨Nat.le_of_ble_eq_true rfl, Nat.le_of_ble_eq_true rfl⟩ rfl (Nat.le_of_ble_eq_true rfl) (fun σ' z hz => ?_))))
                rw [hz.1, hz.2, u1]; clear hz z σ'
                refine ok_i2l 67 rfl rfl (ok_aload_n 68 rfl rfl rfl (ok_getR 69 rfl rfl fl_X12_42 rfl rfl (ok_iload 70 rfl rfl rfl (ok_iconst 71 rfl rfl (by decide) (ok_iload 72 rfl rfl rfl (ok_ishl 73 rfl rfl (ok_ior 74 rfl rfl ?_)))))))
                rw [e2]
                refine ok_lald 75 rfl rfl rfl (by omega) (ok_ladd 76 rfl rfl (by have := vb.1 (by omega); omega) (ok_goto 77 161 rfl rfl rfl (ok_lst7 92 rfl rfl rfl (ok_aload_n 93 rfl rfl rfl (ok_getR 94 rfl rfl fl_X12_42 rfl rfl (ok_iload 95 rfl rfl rfl (ok_aload_n 96 rfl rfl rfl (ok_getR 97 rfl rfl fl_X12_42 rfl rfl (ok_iload 98 rfl rfl rfl (ok_lald 99 rfl rfl rfl (by omega) (ok_lload 100 rfl rfl rfl (ok_mmaxL 101 rfl rfl ml_X12_250 ⟨Nat.le_of_ble_eq_true rfl, Nat.le_of_ble_eq_true rfl⟩ (ok_last 102 rfl rfl rfl (by omega) (ok_inc6 103 rfl rfl rfl (by first | omega | (simp [up_if]; omega) | (simp [up_if] at *; omega)) (ok_goto 104 56 rfl rfl rfl ?_)))))))))))))))
                obtain ⟨X, eX⟩ : ∃ x, x = cmbG b (wk σ (pc s) j) (ρ 10 (sB s j)) := ⟨_, rfl⟩
                have hX : 0 ≤ X ∧ X ≤ 799999992 * (n - pc s) := by
                  rw [eX]; unfold cmbG
                  split
                  · omega
                  · have := vb.1 (by omega); omega
                first | (have eX' : wk σ (pc s) j + ρ 10 (sB s j) = X := by
                           rw [eX]; unfold cmbG; rw [if_neg (by omega)]
                         rw [eX']) | (have eX' : min (wk σ (pc s) j) (ρ 10 (sB s j)) = X := by
                                       rw [eX]; unfold cmbG; rw [if_pos (by omega)]
                                      rw [eX'])
                have ev : ∀ k, s < k → up ρ 10 s (max (ρ 10 s) X) 10 k = ρ 10 k := fun k hk => up_nk _ _ _ _ (by omega)
                have eok : ∀ T j', s ≤ T → T < p2 n - 1 → 0 ≤ j' → j' < n → (okG n l (wk σ) (fun k => up ρ 10 s (max (ρ 10 s) X) 10 k) T j' ↔ okG n l (wk σ) (fun k => ρ 10 k) T j') := fun T j' a0 a1 a2 a3 => by
                  unfold okG
                  constructor
                  · rintro ⟨q1, q2, q3⟩; have := (bitC (s := T) (j := j') (by omega) (by omega) q1).2; dsimp only at q3; rw [ev _ (by omega)] at q3; exact ⟨q1, q2, q3⟩
                  · rintro ⟨q1, q2, q3⟩; have := (bitC (s := T) (j := j') (by omega) (by omega) q1).2; refine ⟨q1, q2, ?_⟩; dsimp only; rw [ev _ (by omega)]; exact q3
                refine ok_fg [some (vr 0), some (vi l), some (vi b), some (vi (p2 n - 1)), some (vi s), some (vi (pc s)), some (vi (j + 1)), none, none] ⟨rfl, rfl, rfl, rfl, rfl, rfl, rfl, trivial⟩ (ih2 (j + 1) _ ⟨by omega, by omega, fr_up j3 rfl, by rw [ev _ (by omega)]; exact jA, fun T a b' => ?_, by rw [up_same]; omega, by rw [up_same]; omega, ?_, ?_⟩ (by omega))
                · obtain ⟨y1, y2, y3⟩ := j4 T a b'
                  refine ⟨⟨fun j' a1 a2 a3 => ?_, ?_⟩, by rw [ev T a]; exact y2, by rw [ev T a]; exact y3⟩
                  · have hh := (eok T j' (by omega) b' a1 a2).mp a3
                    have := (bitC (s := T) (j := j') (by omega) (by omega) hh.1).2
                    dsimp only
                    rw [ev T a, ev _ (by omega)]
                    exact y1.1 j' a1 a2 hh
                  · dsimp only
                    rw [ev T a]
                    rcases y1.2 with q | ⟨j', q1, q2, q3, q4⟩
                    · exact Or.inl ⟨q.1, fun j' a1 a2 a3 => q.2 j' a1 a2 ((eok T j' (by omega) b' a1 a2).mp a3)⟩
                    · have := (bitC (s := T) (j := j') (by omega) (by omega) q3.1).2
                      exact Or.inr ⟨j', q1, q2, (eok T j' (by omega) b' q1 q2).mpr q3, by rw [ev _ (by omega)]; exact q4⟩
                · intro j' a1 a2 a3
                  have hh := (eok s j' (Int.le_refl _) (by omega) a1 (by omega)).mp a3
                  have h8 := (bitC (s := s) (j := j') (by omega) (by omega) hh.1).2
                  rw [up_same, ev _ h8]
                  by_cases q : j' = j
                  · rw [q, ← eX]; omega
                  · have := j7 j' a1 (by omega) hh; omega
                · unfold dpP
                  dsimp only
                  rw [up_same]
                  by_cases q : ρ 10 s < X
                  · refine Or.inr ⟨j, j1, by omega, (eok s j (Int.le_refl _) (by omega) j1 (by omega)).mpr hok, ?_⟩
                    rw [ev _ hc2, ← eX]; omega
                  · rcases j8 with y | ⟨j', q1, q2, q3, q4⟩
                    · have y1 : ρ 10 s = -1 := y.1
                      omega
                    · have h8 := (bitC (s := s) (j := j') (by omega) (by omega) q3.1).2
                      refine Or.inr ⟨j', q1, q2, (eok s j' (Int.le_refl _) (by omega) q1 q2).mpr q3, ?_⟩
                      have q5 : ρ 10 s = cmbG b (wk σ (pc s) j') (ρ 10 (sB s j')) := q4
                      rw [ev _ h8, ← q5]; omega
            · refine ok_goto 60 182 rfl rfl rfl ?_
              exact nxt (by omega) (fun q => by have q9 : 0 ≤ ρ 10 (sB s j) := q.2.2; omega)
  refine ok_iconst 0 rfl rfl (by decide) (ok_aload_n 1 rfl rfl rfl (ok_getI 2 rfl rfl fl_X12_234 rfl rfl (Or.inl rfl) (ok_ishl 3 rfl rfl ?_)))
  rw [← en, z1]
  refine ok_iconst 4 rfl rfl (by decide) (ok_isub 5 rfl rfl (by first | omega | (simp [up_if]; omega) | (simp [up_if] at *; omega)) (ok_ist3 6 rfl rfl rfl (ok_aload_n 7 rfl rfl rfl (ok_getR 8 rfl rfl fl_X12_42 rfl rfl (ok_iload_n 9 rfl rfl rfl (ok_iload_n 10 rfl rfl rfl (ok_if_eq 11 22 rfl rfl rfl (fun h15 => ?_) (fun h15 => ?_))))))))
  · refine ok_ldc2 14 (9223372036854775807) rfl rfl kc_X12_239 (by decide) (ok_last 15 rfl rfl rfl (by first | omega | (simp [up_if]; omega) | (simp [up_if] at *; omega)) ?_)
    first | exact main _ (fr_up fr.rf rfl) (by rw [up_same, if_neg (by omega)]) | exact main _ (fr_up fr.rf rfl) (by rw [up_same, if_pos (by omega)])
  · refine ok_lconst (w := 0) 12 rfl rfl rfl (by decide) (ok_goto 13 25 rfl rfl rfl (ok_last 15 rfl rfl rfl (by first | omega | (simp [up_if]; omega) | (simp [up_if] at *; omega)) ?_))
    first | exact main _ (fr_up fr.rf rfl) (by rw [up_same, if_neg (by omega)]) | exact main _ (fr_up fr.rf rfl) (by rw [up_same, if_pos (by omega)])
