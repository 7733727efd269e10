theorem t_Mo_fails {σ : eS} {k : Int} (h0 : σ 0 9 = 0) : MtI shB M_Mo_fails [vr 0, vi k] σ (fun σ' z => z = 0 ∧ σ' = up (up σ 0 9 k) 0 10 (σ 0 12)) := by
  refine Mt.of okM_Mo_fails (Nat.le_of_ble_eq_true rfl) (fun hk hg => ?_)
  refine ok_aload_n 0 rfl rfl rfl (ok_getI 1 rfl rfl fl_X12_154 rfl rfl (Or.inl rfl) (ok_if_ne 2 20 rfl rfl rfl (fun h4 => ?_) (fun h4 => ?_)))
  · exact absurd h0 h4
  · refine ok_aload_n 3 rfl rfl rfl (ok_iload_n 4 rfl rfl rfl (ok_putI 5 rfl rfl fl_X12_154 rfl rfl rfl rfl (ok_aload_n 6 rfl rfl rfl (ok_aload_n 7 rfl rfl rfl (ok_getI 8 rfl rfl fl_X12_138 rfl rfl (Or.inl rfl) (ok_putI 9 rfl rfl fl_X12_157 rfl rfl rfl rfl (ok_iconst 10 rfl rfl (by decide) (ok_zret 11 rfl rfl rfl (by first | omega | (simp [up_if]; omega) | (simp [up_if] at *; omega)) ?_))))))))
    exact ⟨_, rfl, rfl, by rw [up_nk _ _ _ _ (by decide : (12 : Int) ≠ 9)]⟩
/-- a state that stands at a piece -/
def TK (τ : eS) : Prop := sk (τ 5) (τ 0 6) (τ 0 12) = τ 0 12 ∧ ((¬ τ 0 12 < τ 0 6 ∧ τ 0 11 = 0 ∧ τ 0 13 = τ 0 12) ∨ (dgA (τ 5) (τ 0 6) (τ 0 12) ∧ τ 0 11 = 2 ∧ τ 0 13 = de (τ 5) (τ 0 6) (τ 0 12) ∧ (de (τ 5) (τ 0 6) (τ 0 12) - τ 0 12 ≤ 6 → τ 0 14 = vaD (τ 5) (τ 0 12) (de (τ 5) (τ 0 6) (τ 0 12)))) ∨ (τ 0 12 < τ 0 6 ∧ ¬ dgA (τ 5) (τ 0 6) (τ 0 12) ∧ τ 0 11 = 3 ∧ τ 0 15 = τ 5 (τ 0 12) ∧ τ 0 13 = τ 0 12 + 1))
theorem TK_of {σ τ : eS} (hl : lex σ τ) (h : LX σ τ) : TK τ ∧ τ 0 12 = sk (σ 5) (σ 0 6) (σ 0 13) ∧ τ 5 = σ 5 ∧ τ 0 6 = σ 0 6 := by
  have e5 : τ 5 = σ 5 := by funext j; exact hl.1 5 j (by omega)
  have e6 : τ 0 6 = σ 0 6 := hl.1 0 6 (by omega)
  obtain ⟨h1, h2⟩ := h
  refine ⟨?_, h1, e5, e6⟩
  unfold TK
  rw [e5, e6, h1]
  exact ⟨sk_id, h2⟩
def rdA (τ : eS) : Int → Int := fun j => τ 6 j / (Int.gcd (τ 7 j) (τ 6 j) : Int)
def rdU (τ : eS) : Int → Int := fun j => τ 7 j / (Int.gcd (τ 7 j) (τ 6 j) : Int)
/-- what is left to read, from this piece, with k fractions of the row read -/
def PB (τ : eS) (k : Int) : oA := PR (τ 5) (τ 0 6) (τ 0 12) (τ 0 18) k (τ 0 19) (rdA τ) (rdU τ)
def byt (τ : eS) : Prop := ∀ k : Int, 0 ≤ k → k < τ 0 6 → 0 ≤ τ 5 k
theorem rd_up {σ τ : eS} {i a u : Int} (h6 : τ 6 = uf (σ 6) i a) (h7 : τ 7 = uf (σ 7) i u) : rdA τ = uf (rdA σ) i (a / (Int.gcd u a : Int)) ∧ rdU τ = uf (rdU σ) i (u / (Int.gcd u a : Int)) := by
  constructor <;> funext j <;> simp only [rdA, rdU, h6, h7, uf] <;> split <;> rfl
theorem uf2 (f : Int → Int) (k a b : Int) : uf (uf f k a) k b = uf f k b := by funext j; simp only [uf]; split <;> rfl
/-- a fraction read, of the reference -/
def KB (σ : eS) (k : Int) (σ' : eS) (z : Int) : Prop := (z = 1 ∧ TK σ' ∧ PB σ' (k + 1) = PB σ k ∧ σ' 0 10 = σ 0 10) ∨ (z = 0 ∧ (PB σ k).1 = σ' 0 9 ∧ (PB σ k).2.1 = σ' 0 10)
theorem fl_of {τ σ' : eS} {c z : Int} (hc : c ≠ 0) (h : z = 0 ∧ σ' = up (up τ 0 9 c) 0 10 (τ 0 12)) : (z = 0 ∧ fr (fun c k => c = 0 ∧ (k = 9 ∨ k = 10)) τ σ' ∧ σ' 0 9 ≠ 0) ∧ σ' 0 9 = c ∧ σ' 0 10 = τ 0 12 := by
  obtain ⟨hz, e⟩ := h
  subst e
  refine ⟨⟨hz, fr_up (fr_up fr.rf (by omega)) (by omega), by simp [up_if]; exact hc⟩, by simp [up_if], by simp [up_if]⟩
theorem nn_of {P : Prop} {z : Int} (h : (z = 1 ∧ P) ∨ (z = 0 ∧ ¬ P)) (h0 : z = 0) : ¬ P := h.elim (fun q => absurd q.1 (by omega)) (fun q => q.2)
theorem t_Mo_readFraction {σ : eS} {k : Int} (h : Pz σ) (hk0 : 0 ≤ k ∧ k ≤ 8) (hr : 0 ≤ σ 0 18 ∧ σ 0 18 ≤ 7) (hT : TK σ) (hby : byt σ) (hb0 : σ 0 9 = 0) (hk1 : σ 0 11 = 0 → 0 < k) (hs : σ 0 11 = 3 → σ 0 15 ≠ 59) : MtI shB M_Mo_readFraction [vr 0, vi k] σ (fun σ' z => QrF σ k σ' z ∧ KB σ k σ' z) := by
  refine Mt.of okM_Mo_readFraction (Nat.le_of_ble_eq_true rfl) (fun hk hg => ?_)
  have hfail : ∀ (τ σ' : eS) (z c : Int), fr rgF σ τ → Pz τ → c ≠ 0 → (PB σ k).1 = c → (PB σ k).2.1 = τ 0 12 → z = 0 ∧ σ' = up (up τ 0 9 c) 0 10 (τ 0 12) → QrF σ k σ' z ∧ KB σ k σ' z := fun τ σ' z c f0 p0 hc e1 e2 hz0 => by
    obtain ⟨hz, x1, x2⟩ := fl_of hc hz0
    exact ⟨⟨f0.tr (hz.2.1.mono (fun c k q => by simp only [rgF]; omega)), p0.fr (hz.2.1.mono (fun c k q => by omega)), Or.inl ⟨hz.1, hz.2.2⟩⟩, Or.inr ⟨hz.1, by rw [e1, x1], by rw [e2, x2]⟩⟩
  obtain ⟨h1, h2, h3, h4, h5, h6, h7, h8⟩ := id h
  obtain ⟨hq0, hT1⟩ := id hT
  have P1 : ¬ numB σ → PB σ k = (1, σ 0 12, σ 0 18, σ 0 19, rdA σ, rdU σ) := fun hn => by
    unfold PB
    rcases hT1 with ⟨a1, a2, a3⟩ | ⟨a1, a2, a3, a4⟩ | ⟨a1, a2, a3, a4, a5⟩
    · rw [PR_end hq0 a1, if_pos (hk1 a2), show σ 0 6 = σ 0 12 by omega]
    · rw [PR_dig hq0 a1.1 a1.2 rfl, if_pos (by unfold numB at hn; omega)]
    · exact PR_bad hq0 a1 (by have := hs a3; omega) (fun q => a2 ⟨a1, q⟩)
  refine ok_aload_n 0 rfl rfl rfl (ok_callVI (M' := M_Mo_isNumber) (as := []) 1 rfl rfl ml_X12_160 (s_Mo_isNumber h) rfl rfl (Nat.le_of_ble_eq_true rfl) ⟨Nat.le_of_ble_eq_true rfl, Nat.le_of_ble_eq_true rfl⟩ rfl (Nat.le_of_ble_eq_true rfl) (fun σ' z hz => ?_))
  obtain ⟨hs_, hz⟩ := hz
  rw [hs_]; clear hs_ σ'
  refine ok_if_ne 2 13 rfl rfl rfl (fun h4 => ?_) (fun h4 => ?_)
  · have hn : numB σ := by
      rcases hz with q | q
      · exact q.2
      · omega
    clear hz P1
    have hd : dgA (σ 5) (σ 0 6) (σ 0 12) := by
      have := hn.1
      rcases hT1 with ⟨a1, a2, a3⟩ | ⟨a1, a2, a3, a4⟩ | ⟨a1, a2, a3, a4, a5⟩
      · omega
      · exact a1
      · omega
    obtain ⟨e, he⟩ : ∃ e, e = σ 0 13 := ⟨_, rfl⟩
    obtain ⟨a, ha⟩ : ∃ a, a = σ 0 14 := ⟨_, rfl⟩
    have hde : de (σ 5) (σ 0 6) (σ 0 12) = e ∧ vaD (σ 5) (σ 0 12) e = a := by
      have := hn.1
      rcases hT1 with ⟨a1, a2, a3⟩ | ⟨a1, a2, a3, a4⟩ | ⟨a1, a2, a3, a4, a5⟩
      · omega
      · rw [← a3, ← he] at a4
        rw [← ha] at a4
        exact ⟨by rw [he]; exact a3.symm, (a4 (by have := hn.2; omega)).symm⟩
      · omega
    have hP := PR_dig (r := σ 0 18) (k := k) (w := σ 0 19) (ab := rdA σ) (un := rdU σ) hq0 hd.1 hd.2 hde.1
    rw [if_neg (by have := hn.2; omega), hde.2] at hP
    have P3 : k = 8 → PB σ k = (3, σ 0 12, σ 0 18, σ 0 19, rdA σ, rdU σ) := fun q => by unfold PB; rw [hP, if_pos (Or.inr q)]
    have P4 : k ≠ 8 → 0 < σ 0 18 → k = σ 0 19 → PB σ k = (4, σ 0 12, σ 0 18, σ 0 19, rdA σ, rdU σ) := fun q1 q2 q3 => by unfold PB; rw [hP, if_neg (by omega), if_pos ⟨q2, q3⟩]
    refine ok_iload_n 7 rfl rfl rfl (ok_bipush 8 rfl rfl (by decide) (by decide) (ok_icmp_ne 9 25 rfl rfl rfl (fun h16 => ?_) (fun h16 => ?_)))
    · refine ok_aload_n 14 rfl rfl rfl (ok_getI 15 rfl rfl fl_X12_167 rfl rfl (Or.inl rfl) (ok_if_le 16 46 rfl rfl rfl (fun h29 => ?_) (fun h29 => ?_)))
      · have hw : 0 < σ 0 18 → k ≠ σ 0 19 := by omega
        rw [if_neg (by omega), if_neg (by omega)] at hP
        clear P3 P4
        have hix : 8 * σ 0 18 + k = σ 0 18 * 8 + k := by omega
        refine ok_bipush 25 rfl rfl (by decide) (by decide) (ok_aload_n 26 rfl rfl rfl (ok_getI 27 rfl rfl fl_X12_167 rfl rfl (Or.inl rfl) (ok_imul 28 rfl rfl (by first | omega | (have q1 := f2 0 18; have q2 := f2 0 19; omega)) (ok_iload_n 29 rfl rfl rfl (ok_iadd 30 rfl rfl (by first | omega | (have q1 := f2 0 18; have q2 := f2 0 19; omega)) (ok_ist2 31 rfl rfl rfl (ok_aload_n 32 rfl rfl rfl (ok_getR 33 rfl rfl fl_X12_30 rfl rfl (ok_iload_n 34 rfl rfl rfl (ok_aload_n 35 rfl rfl rfl (ok_getI 36 rfl rfl fl_X12_141 rfl rfl (Or.inl rfl) (ok_iast 37 rfl rfl rfl (by first | omega | (have q1 := f2 0 18; have q2 := f2 0 19; omega)) (ok_aload_n 38 rfl rfl rfl (ok_getR 39 rfl rfl fl_X12_33 rfl rfl (ok_iload_n 40 rfl rfl rfl (ok_iconst 41 rfl rfl (by decide) (ok_iast 42 rfl rfl rfl (by first | omega | (have q1 := f2 0 18; have q2 := f2 0 19; omega)) ?_)))))))))))))))))
        obtain ⟨τ, e1⟩ : ∃ x, x = up (up σ 6 (8 * σ 0 18 + k) (σ 0 14)) 7 (8 * σ 0 18 + k) 1 := ⟨_, rfl⟩
        have f1 : fr rgF σ τ := by rw [e1]; exact fr_up (fr_up fr.rf (by simp [rgF])) (by simp [rgF])
        have pt : Pz τ := h.fr (by rw [e1]; exact fr_up (fr_up fr.rf (by omega)) (by omega))
        have u1 : uOk τ (8 * σ 0 18 + k) := by rw [e1]; unfold uOk; simp [up_if]; omega
        have o1 : ∀ j, j ≠ 8 * σ 0 18 + k → τ 6 j = σ 6 j ∧ τ 7 j = σ 7 j := fun j hj => by rw [e1]; simp [up_if, hj]
        have v6 : τ 6 = uf (σ 6) (σ 0 18 * 8 + k) a := by rw [e1, up_fn _ _ _ (by decide), up_uf, ← ha, hix]
        have v7 : τ 7 = uf (σ 7) (σ 0 18 * 8 + k) 1 := by rw [e1, up_uf, up_fn _ _ _ (by decide), hix]
        have t5 : τ 5 = σ 5 := by funext j; exact f1 5 j (by simp [rgF])
        have t6 : τ 0 6 = σ 0 6 := f1 0 6 (by simp [rgF])
        have t12 : τ 0 12 = σ 0 12 := by rw [e1]; simp [up_if]
        have t13 : τ 0 13 = σ 0 13 := by rw [e1]; simp [up_if]
        have t9 : τ 0 9 = σ 0 9 := by rw [e1]; simp [up_if]
        have t10 : τ 0 10 = σ 0 10 := by rw [e1]; simp [up_if]
        have by1 : ∀ k : Int, 0 ≤ k → k < τ 0 6 → 0 ≤ τ 5 k := by rw [t5, t6]; exact hby
        clear h
        first | (simp only [up_ne _ _ _ _ (show (0 : Nat) ≠ 6 by decide)]; rw [← e1]) | rw [← e1]
        clear e1
        refine ok_aload_n 43 rfl rfl rfl (ok_callVV (M' := M_Mo_next) (as := []) 44 rfl rfl ml_X12_173 (t_Mo_next pt.P0 by1) rfl rfl (Nat.le_of_ble_eq_true rfl) ⟨Nat.le_of_ble_eq_true rfl, Nat.le_of_ble_eq_true rfl⟩ rfl (Nat.le_of_ble_eq_true rfl) (fun τ1 hl0 => ?_))
        have hl := hl0.1
        obtain ⟨T1, i12, i5, i6⟩ := TK_of hl hl0.2
        rw [t5, t6, t13, ← he] at i12
        rw [t5] at i5
        rw [t6] at i6
        have p1 := Pz.of pt.P0 hl
        have f2 : fr rgF σ τ1 := f1.tr (hl.1.mono (fun c k q => by simp only [rgF]; omega))
        have l9 := hl.1 0 9 (by omega)
        have l10 := hl.1 0 10 (by omega)
        have l12 := hl.2.1
        have l7 : ∀ j, τ1 7 j = τ 7 j := fun j => hl.1 7 j (by omega)
        have l6 : ∀ j, τ1 6 j = τ 6 j := fun j => hl.1 6 j (by omega)
        have w6 : τ1 6 = uf (σ 6) (σ 0 18 * 8 + k) a := by rw [← v6]; funext j; exact l6 j
        have w7 : τ1 7 = uf (σ 7) (σ 0 18 * 8 + k) 1 := by rw [← v7]; funext j; exact l7 j
        have hfrom : σ 0 12 < σ 0 13 := h6 (by have := hn.1; omega)
        have i18 : τ1 0 18 = σ 0 18 := f2 0 18 (by simp [rgF])
        have i19 : τ1 0 19 = σ 0 19 := f2 0 19 (by simp [rgF])
        have N1 : (τ1 0 11 ≠ 3 ∨ τ1 0 15 ≠ 47) → KB σ k τ1 1 := fun q => by
          refine Or.inl ⟨rfl, T1, ?_, by omega⟩
          have hno : ¬ (sk (σ 5) (σ 0 6) e < σ 0 6 ∧ σ 5 (sk (σ 5) (σ 0 6) e) = 47) := fun qq => by
            obtain ⟨-, T2⟩ := T1
            rw [i5, i6, i12] at T2
            rcases T2 with ⟨a1, a2, a3⟩ | ⟨a1, a2, a3, a4⟩ | ⟨a1, a2, a3, a4, a5⟩
            · exact a1 qq.1
            · have := a1.2; omega
            · omega
          have ru := rd_up w6 w7
          unfold PB
          rw [hP, if_neg hno, i5, i6, i12, i18, i19, ru.1, ru.2]
        refine ok_aload_n 45 rfl rfl rfl (ok_getI 46 rfl rfl fl_X12_147 rfl rfl (Or.inl rfl) (ok_iconst 47 rfl rfl (by decide) (ok_icmp_ne 48 94 rfl rfl rfl (fun h82 => ?_) (fun h82 => ?_))))
        · refine ok_iconst 53 rfl rfl (by decide) (ok_zret 54 rfl rfl rfl (by first | omega | (simp [up_if]; omega) | (simp [up_if] at *; omega)) ?_)
          refine ⟨_, rfl, ⟨f2, p1, Or.inr ⟨rfl, by omega, by omega, by omega, hw, ?_, fun j hj => ?_⟩⟩, N1 (by omega)⟩
          · unfold uOk; rw [l7, l6]; exact u1
          · rw [l7, l6]; exact o1 j hj
        · refine ok_aload_n 49 rfl rfl rfl (ok_getI 50 rfl rfl fl_X12_144 rfl rfl (Or.inl rfl) (ok_bipush 51 rfl rfl (by decide) (by decide) (ok_icmp_eq 52 96 rfl rfl rfl (fun h91 => ?_) (fun h91 => ?_))))
          · have hs3 : τ1 0 11 = 3 ∧ τ1 0 15 = 47 := by omega
            clear N1
            have hS : (sk (σ 5) (σ 0 6) e < σ 0 6 ∧ σ 5 (sk (σ 5) (σ 0 6) e) = 47) ∧ τ1 0 13 = sk (σ 5) (σ 0 6) e + 1 := by
              obtain ⟨-, T2⟩ := T1
              rw [i5, i6, i12] at T2
              rcases T2 with ⟨a1, a2, a3⟩ | ⟨a1, a2, a3, a4⟩ | ⟨a1, a2, a3, a4, a5⟩
              · omega
              · omega
              · exact ⟨⟨a1, by omega⟩, a5⟩
            rw [if_pos hS.1] at hP
            obtain ⟨qq, hqq⟩ : ∃ x, x = sk (σ 5) (σ 0 6) (sk (σ 5) (σ 0 6) e + 1) := ⟨_, rfl⟩
            rw [← hqq] at hP
            have by2 : ∀ k : Int, 0 ≤ k → k < τ1 0 6 → 0 ≤ τ1 5 k := by rw [i5, i6]; exact hby
            refine ok_aload_n 55 rfl rfl rfl (ok_callVV (M' := M_Mo_next) (as := []) 56 rfl rfl ml_X12_173 (t_Mo_next p1.P0 by2) rfl rfl (Nat.le_of_ble_eq_true rfl) ⟨Nat.le_of_ble_eq_true rfl, Nat.le_of_ble_eq_true rfl⟩ rfl (Nat.le_of_ble_eq_true rfl) (fun τ2 hl0 => ?_))
            have hl2 := hl0.1
            obtain ⟨T2, j12, j5, j6⟩ := TK_of hl2 hl0.2
            rw [i5, i6, hS.2, ← hqq] at j12
            rw [i5] at j5
            rw [i6] at j6
            have p2 := Pz.of p1.P0 hl2
            have f3 : fr rgF σ τ2 := f2.tr (hl2.1.mono (fun c k q => by simp only [rgF]; omega))
            have m9 := hl2.1 0 9 (by omega)
            have m10 := hl2.1 0 10 (by omega)
            have m7 : ∀ j, τ2 7 j = τ1 7 j := fun j => hl2.1 7 j (by omega)
            have m6 : ∀ j, τ2 6 j = τ1 6 j := fun j => hl2.1 6 j (by omega)
            have m12 := hl2.2.1
            have k12 := p1.2.1
            have q14 : 0 ≤ τ2 0 14 ∧ τ2 0 14 ≤ 999999 := hl2.2.2.2.2.2.2
            have b2 : τ2 0 9 = 0 := by omega
            obtain ⟨-, T3⟩ := id T2
            rw [j5, j6, j12] at T3
            have D1 : ¬ numB τ2 → PB σ k = (1, qq, σ 0 18, σ 0 19, rdA σ, rdU σ) := fun hn2 => by
              unfold PB
              rw [hP, if_pos ?_]
              unfold numB at hn2
              rcases T3 with ⟨a1, a2, a3⟩ | ⟨a1, a2, a3, a4⟩ | ⟨a1, a2, a3, a4, a5⟩
              · exact Or.inl (fun q => a1 q.1)
              · exact Or.inr (by omega)
              · exact Or.inl a2
            have D2 : numB τ2 → (dgA (σ 5) (σ 0 6) qq ∧ de (σ 5) (σ 0 6) qq = τ2 0 13 ∧ ¬ (6 < τ2 0 13 - qq) ∧ vaD (σ 5) qq (τ2 0 13) = τ2 0 14) := fun hn2 => by
              unfold numB at hn2
              rcases T3 with ⟨a1, a2, a3⟩ | ⟨a1, a2, a3, a4⟩ | ⟨a1, a2, a3, a4, a5⟩
              · omega
              · rw [← a3] at a4; exact ⟨a1, a3.symm, by omega, (a4 (by omega)).symm⟩
              · omega
            refine ok_aload_n 57 rfl rfl rfl (ok_callVI (M' := M_Mo_isNumber) (as := []) 58 rfl rfl ml_X12_160 (s_Mo_isNumber p2) rfl rfl (Nat.le_of_ble_eq_true rfl) ⟨Nat.le_of_ble_eq_true rfl, Nat.le_of_ble_eq_true rfl⟩ rfl (Nat.le_of_ble_eq_true rfl) (fun σ' z hz => ?_))
            obtain ⟨hs_, hz⟩ := hz
            rw [hs_]; clear hs_ σ'
            refine ok_if_ne 59 113 rfl rfl rfl (fun h104 => ?_) (fun h104 => ?_)
            · have hn2 : numB τ2 := by
                rcases hz with q | q
                · exact q.2
                · omega
              clear hz D1
              obtain ⟨g1, g2, g3, g4⟩ := D2 hn2
              rw [g2, g4, if_neg (fun q => q.elim (fun q => q g1) g3)] at hP
              have D3 : τ2 0 14 = 0 → PB σ k = (2, qq, σ 0 18, σ 0 19, rdA σ, rdU σ) := fun q => by unfold PB; rw [hP, if_pos q]
              refine ok_aload_n 64 rfl rfl rfl (ok_getI 65 rfl rfl fl_X12_141 rfl rfl (Or.inl rfl) (ok_if_ne 66 126 rfl rfl rfl (fun h117 => ?_) (fun h117 => ?_)))
              · rw [if_neg (by omega)] at hP
                refine ok_aload_n 71 rfl rfl rfl (ok_getR 72 rfl rfl fl_X12_33 rfl rfl (ok_iload_n 73 rfl rfl rfl (ok_aload_n 74 rfl rfl rfl (ok_getI 75 rfl rfl fl_X12_141 rfl rfl (Or.inl rfl) (ok_iast 76 rfl rfl rfl (by first | omega | (have q1 := f2 0 18; have q2 := f2 0 19; omega)) ?_)))))
                obtain ⟨τ3, e3⟩ : ∃ x, x = up τ2 7 (8 * σ 0 18 + k) (τ2 0 14) := ⟨_, rfl⟩
                have p3 : Pz τ3 := p2.fr (by rw [e3]; exact fr_up fr.rf (by omega))
                have f4 : fr rgF σ τ3 := by rw [e3]; exact fr_up f3 (by simp [rgF])
                have u3 : uOk τ3 (8 * σ 0 18 + k) := by
                  rw [e3]; unfold uOk; simp [up_if]; rw [m6, l6]; have := u1; unfold uOk at this; omega
                have o3 : ∀ j, j ≠ 8 * σ 0 18 + k → τ3 6 j = σ 6 j ∧ τ3 7 j = σ 7 j := fun j hj => by
                  rw [e3]; simp [up_if, hj]; rw [m6, m7, l6, l7]; exact o1 j hj
                have x6 : τ3 6 = uf (σ 6) (σ 0 18 * 8 + k) a := by rw [e3, up_fn _ _ _ (by decide), ← w6]; funext j; exact m6 j
                have x7 : τ3 7 = uf (σ 7) (σ 0 18 * 8 + k) (τ2 0 14) := by rw [e3, up_uf, hix, show τ2 7 = uf (σ 7) (σ 0 18 * 8 + k) 1 by rw [← w7]; funext j; exact m7 j, uf2]
                have y5 : τ3 5 = σ 5 := by rw [e3, up_fn _ _ _ (by decide), j5]
                have y6 : τ3 0 6 = σ 0 6 := by rw [e3, up_ne _ _ _ _ (by decide), j6]
                have t39 : τ3 0 9 = τ2 0 9 := by rw [e3]; simp [up_if]
                have t310 : τ3 0 10 = τ2 0 10 := by rw [e3]; simp [up_if]
                have t313 : τ3 0 13 = τ2 0 13 := by rw [e3]; simp [up_if]
                have by3 : ∀ k : Int, 0 ≤ k → k < τ3 0 6 → 0 ≤ τ3 5 k := by rw [y5, y6]; exact hby
                rw [← e3]
                refine ok_aload_n 77 rfl rfl rfl (ok_callVV (M' := M_Mo_next) (as := []) 78 rfl rfl ml_X12_173 (t_Mo_next p3.P0 by3) rfl rfl (Nat.le_of_ble_eq_true rfl) ⟨Nat.le_of_ble_eq_true rfl, Nat.le_of_ble_eq_true rfl⟩ rfl (Nat.le_of_ble_eq_true rfl) (fun τ4 hl0 => ?_))
                have hl4 := hl0.1
                obtain ⟨T4, k12, k5, k6⟩ := TK_of hl4 hl0.2
                rw [y5, y6, t313] at k12
                rw [y5] at k5
                rw [y6] at k6
                have p4 := Pz.of p3.P0 hl4
                have n9 := hl4.1 0 9 (by omega)
                have n10 := hl4.1 0 10 (by omega)
                have n12 := hl4.2.1
                have k22 := p2.2.1
                refine ok_iconst 79 rfl rfl (by decide) (ok_zret 80 rfl rfl rfl (by first | omega | (simp [up_if]; omega) | (simp [up_if] at *; omega)) ?_)
                refine ⟨_, rfl, ⟨f4.tr (hl4.1.mono (fun c k q => by simp only [rgF]; omega)), p4, Or.inr ⟨rfl, by omega, by omega, by omega, hw, ?_, fun j hj => ?_⟩⟩, Or.inl ⟨rfl, T4, ?_, by omega⟩⟩
                · unfold uOk; rw [hl4.1 7 _ (by omega), hl4.1 6 _ (by omega)]; exact u3
                · rw [hl4.1 7 _ (by omega), hl4.1 6 _ (by omega)]; exact o3 j hj
                · have z6 : τ4 6 = uf (σ 6) (σ 0 18 * 8 + k) a := by rw [← x6]; funext j; exact hl4.1 6 j (by omega)
                  have z7 : τ4 7 = uf (σ 7) (σ 0 18 * 8 + k) (τ2 0 14) := by rw [← x7]; funext j; exact hl4.1 7 j (by omega)
                  have ru := rd_up z6 z7
                  have f5 : fr rgF σ τ4 := f4.tr (hl4.1.mono (fun c k q => by simp only [rgF]; omega))
                  unfold PB
                  rw [hP, k5, k6, k12, f5 0 18 (by simp [rgF]), f5 0 19 (by simp [rgF]), ru.1, ru.2]
                  exact PR_sk sk_id
              · refine ok_aload_n 67 rfl rfl rfl (ok_iconst 68 rfl rfl (by decide) (ok_callVI (M' := M_Mo_fails) (as := [_]) 69 rfl rfl ml_X12_164 (t_Mo_fails b2) rfl rfl (Nat.le_of_ble_eq_true rfl) ⟨Nat.le_of_ble_eq_true rfl, Nat.le_of_ble_eq_true rfl⟩ rfl (Nat.le_of_ble_eq_true rfl) (fun σ' z2 hz2 => ?_)))
                have hq := hfail τ2 σ' z2 2 f3 p2 (by decide) (by rw [D3 (by omega)]) (by rw [D3 (by omega), j12]) hz2
                refine ok_zret 70 rfl rfl rfl (by have := hz2.1; omega) ?_
                exact ⟨_, rfl, hq⟩
            · refine ok_aload_n 60 rfl rfl rfl (ok_iconst 61 rfl rfl (by decide) (ok_callVI (M' := M_Mo_fails) (as := [_]) 62 rfl rfl ml_X12_164 (t_Mo_fails b2) rfl rfl (Nat.le_of_ble_eq_true rfl) ⟨Nat.le_of_ble_eq_true rfl, Nat.le_of_ble_eq_true rfl⟩ rfl (Nat.le_of_ble_eq_true rfl) (fun σ' z2 hz2 => ?_)))
              have hq := hfail τ2 σ' z2 1 f3 p2 (by decide) (by rw [D1 (nn_of hz h104)]) (by rw [D1 (nn_of hz h104), j12]) hz2
              refine ok_zret 63 rfl rfl rfl (by have := hz2.1; omega) ?_
              exact ⟨_, rfl, hq⟩
          · refine ok_iconst 53 rfl rfl (by decide) (ok_zret 54 rfl rfl rfl (by first | omega | (simp [up_if]; omega) | (simp [up_if] at *; omega)) ?_)
            refine ⟨_, rfl, ⟨f2, p1, Or.inr ⟨rfl, by omega, by omega, by omega, hw, ?_, fun j hj => ?_⟩⟩, N1 (by omega)⟩
            · unfold uOk; rw [l7, l6]; exact u1
            · rw [l7, l6]; exact o1 j hj
      · refine ok_iload_n 17 rfl rfl rfl (ok_aload_n 18 rfl rfl rfl (ok_getI 19 rfl rfl fl_X12_170 rfl rfl (Or.inl rfl) (ok_icmp_ne 20 46 rfl rfl rfl (fun h37 => ?_) (fun h37 => ?_))))
        · have hw : 0 < σ 0 18 → k ≠ σ 0 19 := by omega
          rw [if_neg (by omega), if_neg (by omega)] at hP
          clear P3 P4
          have hix : 8 * σ 0 18 + k = σ 0 18 * 8 + k := by omega
          refine ok_bipush 25 rfl rfl (by decide) (by decide) (ok_aload_n 26 rfl rfl rfl (ok_getI 27 rfl rfl fl_X12_167 rfl rfl (Or.inl rfl) (ok_imul 28 rfl rfl (by first | omega | (have q1 := f2 0 18; have q2 := f2 0 19; omega)) (ok_iload_n 29 rfl rfl rfl (ok_iadd 30 rfl rfl (by first | omega | (have q1 := f2 0 18; have q2 := f2 0 19; omega)) (ok_ist2 31 rfl rfl rfl (ok_aload_n 32 rfl rfl rfl (ok_getR 33 rfl rfl fl_X12_30 rfl rfl (ok_iload_n 34 rfl rfl rfl (ok_aload_n 35 rfl rfl rfl (ok_getI 36 rfl rfl fl_X12_141 rfl rfl (Or.inl rfl) (ok_iast 37 rfl rfl rfl (by first | omega | (have q1 := f2 0 18; have q2 := f2 0 19; omega)) (ok_aload_n 38 rfl rfl rfl (ok_getR 39 rfl rfl fl_X12_33 rfl rfl (ok_iload_n 40 rfl rfl rfl (ok_iconst 41 rfl rfl (by decide) (ok_iast 42 rfl rfl rfl (by first | omega | (have q1 := f2 0 18; have q2 := f2 0 19; omega)) ?_)))))))))))))))))
          obtain ⟨τ, e1⟩ : ∃ x, x = up (up σ 6 (8 * σ 0 18 + k) (σ 0 14)) 7 (8 * σ 0 18 + k) 1 := ⟨_, rfl⟩
          have f1 : fr rgF σ τ := by rw [e1]; exact fr_up (fr_up fr.rf (by simp [rgF])) (by simp [rgF])
          have pt : Pz τ := h.fr (by rw [e1]; exact fr_up (fr_up fr.rf (by omega)) (by omega))
          have u1 : uOk τ (8 * σ 0 18 + k) := by rw [e1]; unfold uOk; simp [up_if]; omega
          have o1 : ∀ j, j ≠ 8 * σ 0 18 + k → τ 6 j = σ 6 j ∧ τ 7 j = σ 7 j := fun j hj => by rw [e1]; simp [up_if, hj]
          have v6 : τ 6 = uf (σ 6) (σ 0 18 * 8 + k) a := by rw [e1, up_fn _ _ _ (by decide), up_uf, ← ha, hix]
          have v7 : τ 7 = uf (σ 7) (σ 0 18 * 8 + k) 1 := by rw [e1, up_uf, up_fn _ _ _ (by decide), hix]
          have t5 : τ 5 = σ 5 := by funext j; exact f1 5 j (by simp [rgF])
          have t6 : τ 0 6 = σ 0 6 := f1 0 6 (by simp [rgF])
          have t12 : τ 0 12 = σ 0 12 := by rw [e1]; simp [up_if]
          have t13 : τ 0 13 = σ 0 13 := by rw [e1]; simp [up_if]
          have t9 : τ 0 9 = σ 0 9 := by rw [e1]; simp [up_if]
          have t10 : τ 0 10 = σ 0 10 := by rw [e1]; simp [up_if]
          have by1 : ∀ k : Int, 0 ≤ k → k < τ 0 6 → 0 ≤ τ 5 k := by rw [t5, t6]; exact hby
          clear h
          first | (simp only [up_ne _ _ _ _ (show (0 : Nat) ≠ 6 by decide)]; rw [← e1]) | rw [← e1]
          clear e1
          refine ok_aload_n 43 rfl rfl rfl (ok_callVV (M' := M_Mo_next) (as := []) 44 rfl rfl ml_X12_173 (t_Mo_next pt.P0 by1) rfl rfl (Nat.le_of_ble_eq_true rfl) ⟨Nat.le_of_ble_eq_true rfl, Nat.le_of_ble_eq_true rfl⟩ rfl (Nat.le_of_ble_eq_true rfl) (fun τ1 hl0 => ?_))
          have hl := hl0.1
          obtain ⟨T1, i12, i5, i6⟩ := TK_of hl hl0.2
          rw [t5, t6, t13, ← he] at i12
          rw [t5] at i5
          rw [t6] at i6
          have p1 := Pz.of pt.P0 hl
          have f2 : fr rgF σ τ1 := f1.tr (hl.1.mono (fun c k q => by simp only [rgF]; omega))
          have l9 := hl.1 0 9 (by omega)
          have l10 := hl.1 0 10 (by omega)
          have l12 := hl.2.1
          have l7 : ∀ j, τ1 7 j = τ 7 j := fun j => hl.1 7 j (by omega)
          have l6 : ∀ j, τ1 6 j = τ 6 j := fun j => hl.1 6 j (by omega)
          have w6 : τ1 6 = uf (σ 6) (σ 0 18 * 8 + k) a := by rw [← v6]; funext j; exact l6 j
          have w7 : τ1 7 = uf (σ 7) (σ 0 18 * 8 + k) 1 := by rw [← v7]; funext j; exact l7 j
          have hfrom : σ 0 12 < σ 0 13 := h6 (by have := hn.1; omega)
          have i18 : τ1 0 18 = σ 0 18 := f2 0 18 (by simp [rgF])
          have i19 : τ1 0 19 = σ 0 19 := f2 0 19 (by simp [rgF])
          have N1 : (τ1 0 11 ≠ 3 ∨ τ1 0 15 ≠ 47) → KB σ k τ1 1 := fun q => by
            refine Or.inl ⟨rfl, T1, ?_, by omega⟩
            have hno : ¬ (sk (σ 5) (σ 0 6) e < σ 0 6 ∧ σ 5 (sk (σ 5) (σ 0 6) e) = 47) := fun qq => by
              obtain ⟨-, T2⟩ := T1
              rw [i5, i6, i12] at T2
              rcases T2 with ⟨a1, a2, a3⟩ | ⟨a1, a2, a3, a4⟩ | ⟨a1, a2, a3, a4, a5⟩
              · exact a1 qq.1
              · have := a1.2; omega
              · omega
            have ru := rd_up w6 w7
            unfold PB
            rw [hP, if_neg hno, i5, i6, i12, i18, i19, ru.1, ru.2]
          refine ok_aload_n 45 rfl rfl rfl (ok_getI 46 rfl rfl fl_X12_147 rfl rfl (Or.inl rfl) (ok_iconst 47 rfl rfl (by decide) (ok_icmp_ne 48 94 rfl rfl rfl (fun h82 => ?_) (fun h82 => ?_))))
          · refine ok_iconst 53 rfl rfl (by decide) (ok_zret 54 rfl rfl rfl (by first | omega | (simp [up_if]; omega) | (simp [up_if] at *; omega)) ?_)
            refine ⟨_, rfl, ⟨f2, p1, Or.inr ⟨rfl, by omega, by omega, by omega, hw, ?_, fun j hj => ?_⟩⟩, N1 (by omega)⟩
            · unfold uOk; rw [l7, l6]; exact u1
            · rw [l7, l6]; exact o1 j hj
          · refine ok_aload_n 49 rfl rfl rfl (ok_getI 50 rfl rfl fl_X12_144 rfl rfl (Or.inl rfl) (ok_bipush 51 rfl rfl (by decide) (by decide) (ok_icmp_eq 52 96 rfl rfl rfl (fun h91 => ?_) (fun h91 => ?_))))
            · have hs3 : τ1 0 11 = 3 ∧ τ1 0 15 = 47 := by omega
              clear N1
              have hS : (sk (σ 5) (σ 0 6) e < σ 0 6 ∧ σ 5 (sk (σ 5) (σ 0 6) e) = 47) ∧ τ1 0 13 = sk (σ 5) (σ 0 6) e + 1 := by
                obtain ⟨-, T2⟩ := T1
                rw [i5, i6, i12] at T2
                rcases T2 with ⟨a1, a2, a3⟩ | ⟨a1, a2, a3, a4⟩ | ⟨a1, a2, a3, a4, a5⟩
                · omega
                · omega
                · exact ⟨⟨a1, by omega⟩, a5⟩
              rw [if_pos hS.1] at hP
              obtain ⟨qq, hqq⟩ : ∃ x, x = sk (σ 5) (σ 0 6) (sk (σ 5) (σ 0 6) e + 1) := ⟨_, rfl⟩
              rw [← hqq] at hP
              have by2 : ∀ k : Int, 0 ≤ k → k < τ1 0 6 → 0 ≤ τ1 5 k := by rw [i5, i6]; exact hby
              refine ok_aload_n 55 rfl rfl rfl (ok_callVV (M' := M_Mo_next) (as := []) 56 rfl rfl ml_X12_173 (t_Mo_next p1.P0 by2) rfl rfl (Nat.le_of_ble_eq_true rfl) ⟨Nat.le_of_ble_eq_true rfl, Nat.le_of_ble_eq_true rfl⟩ rfl (Nat.le_of_ble_eq_true rfl) (fun τ2 hl0 => ?_))
              have hl2 := hl0.1
              obtain ⟨T2, j12, j5, j6⟩ := TK_of hl2 hl0.2
              rw [i5, i6, hS.2, ← hqq] at j12
              rw [i5] at j5
              rw [i6] at j6
              have p2 := Pz.of p1.P0 hl2
              have f3 : fr rgF σ τ2 := f2.tr (hl2.1.mono (fun c k q => by simp only [rgF]; omega))
              have m9 := hl2.1 0 9 (by omega)
              have m10 := hl2.1 0 10 (by omega)
              have m7 : ∀ j, τ2 7 j = τ1 7 j := fun j => hl2.1 7 j (by omega)
              have m6 : ∀ j, τ2 6 j = τ1 6 j := fun j => hl2.1 6 j (by omega)
              have m12 := hl2.2.1
              have k12 := p1.2.1
              have q14 : 0 ≤ τ2 0 14 ∧ τ2 0 14 ≤ 999999 := hl2.2.2.2.2.2.2
              have b2 : τ2 0 9 = 0 := by omega
              obtain ⟨-, T3⟩ := id T2
              rw [j5, j6, j12] at T3
              have D1 : ¬ numB τ2 → PB σ k = (1, qq, σ 0 18, σ 0 19, rdA σ, rdU σ) := fun hn2 => by
                unfold PB
                rw [hP, if_pos ?_]
                unfold numB at hn2
                rcases T3 with ⟨a1, a2, a3⟩ | ⟨a1, a2, a3, a4⟩ | ⟨a1, a2, a3, a4, a5⟩
                · exact Or.inl (fun q => a1 q.1)
                · exact Or.inr (by omega)
                · exact Or.inl a2
              have D2 : numB τ2 → (dgA (σ 5) (σ 0 6) qq ∧ de (σ 5) (σ 0 6) qq = τ2 0 13 ∧ ¬ (6 < τ2 0 13 - qq) ∧ vaD (σ 5) qq (τ2 0 13) = τ2 0 14) := fun hn2 => by
                unfold numB at hn2
                rcases T3 with ⟨a1, a2, a3⟩ | ⟨a1, a2, a3, a4⟩ | ⟨a1, a2, a3, a4, a5⟩
                · omega
                · rw [← a3] at a4; exact ⟨a1, a3.symm, by omega, (a4 (by omega)).symm⟩
                · omega
              refine ok_aload_n 57 rfl rfl rfl (ok_callVI (M' := M_Mo_isNumber) (as := []) 58 rfl rfl ml_X12_160 (s_Mo_isNumber p2) rfl rfl (Nat.le_of_ble_eq_true rfl) ⟨Nat.le_of_ble_eq_true rfl, Nat.le_of_ble_eq_true rfl⟩ rfl (Nat.le_of_ble_eq_true rfl) (fun σ' z hz => ?_))
              obtain ⟨hs_, hz⟩ := hz
              rw [hs_]; clear hs_ σ'
              refine ok_if_ne 59 113 rfl rfl rfl (fun h104 => ?_) (fun h104 => ?_)
              · have hn2 : numB τ2 := by
                  rcases hz with q | q
                  · exact q.2
                  · omega
                clear hz D1
                obtain ⟨g1, g2, g3, g4⟩ := D2 hn2
                rw [g2, g4, if_neg (fun q => q.elim (fun q => q g1) g3)] at hP
                have D3 : τ2 0 14 = 0 → PB σ k = (2, qq, σ 0 18, σ 0 19, rdA σ, rdU σ) := fun q => by unfold PB; rw [hP, if_pos q]
                refine ok_aload_n 64 rfl rfl rfl (ok_getI 65 rfl rfl fl_X12_141 rfl rfl (Or.inl rfl) (ok_if_ne 66 126 rfl rfl rfl (fun h117 => ?_) (fun h117 => ?_)))
                · rw [if_neg (by omega)] at hP
                  refine ok_aload_n 71 rfl rfl rfl (ok_getR 72 rfl rfl fl_X12_33 rfl rfl (ok_iload_n 73 rfl rfl rfl (ok_aload_n 74 rfl rfl rfl (ok_getI 75 rfl rfl fl_X12_141 rfl rfl (Or.inl rfl) (ok_iast 76 rfl rfl rfl (by first | omega | (have q1 := f2 0 18; have q2 := f2 0 19; omega)) ?_)))))
                  obtain ⟨τ3, e3⟩ : ∃ x, x = up τ2 7 (8 * σ 0 18 + k) (τ2 0 14) := ⟨_, rfl⟩
                  have p3 : Pz τ3 := p2.fr (by rw [e3]; exact fr_up fr.rf (by omega))
                  have f4 : fr rgF σ τ3 := by rw [e3]; exact fr_up f3 (by simp [rgF])
                  have u3 : uOk τ3 (8 * σ 0 18 + k) := by
                    rw [e3]; unfold uOk; simp [up_if]; rw [m6, l6]; have := u1; unfold uOk at this; omega
                  have o3 : ∀ j, j ≠ 8 * σ 0 18 + k → τ3 6 j = σ 6 j ∧ τ3 7 j = σ 7 j := fun j hj => by
                    rw [e3]; simp [up_if, hj]; rw [m6, m7, l6, l7]; exact o1 j hj
                  have x6 : τ3 6 = uf (σ 6) (σ 0 18 * 8 + k) a := by rw [e3, up_fn _ _ _ (by decide), ← w6]; funext j; exact m6 j
                  have x7 : τ3 7 = uf (σ 7) (σ 0 18 * 8 + k) (τ2 0 14) := by rw [e3, up_uf, hix, show τ2 7 = uf (σ 7) (σ 0 18 * 8 + k) 1 by rw [← w7]; funext j; exact m7 j, uf2]
                  have y5 : τ3 5 = σ 5 := by rw [e3, up_fn _ _ _ (by decide), j5]
                  have y6 : τ3 0 6 = σ 0 6 := by rw [e3, up_ne _ _ _ _ (by decide), j6]
                  have t39 : τ3 0 9 = τ2 0 9 := by rw [e3]; simp [up_if]
                  have t310 : τ3 0 10 = τ2 0 10 := by rw [e3]; simp [up_if]
                  have t313 : τ3 0 13 = τ2 0 13 := by rw [e3]; simp [up_if]
                  have by3 : ∀ k : Int, 0 ≤ k → k < τ3 0 6 → 0 ≤ τ3 5 k := by rw [y5, y6]; exact hby
                  rw [← e3]
                  refine ok_aload_n 77 rfl rfl rfl (ok_callVV (M' := M_Mo_next) (as := []) 78 rfl rfl ml_X12_173 (t_Mo_next p3.P0 by3) rfl rfl (Nat.le_of_ble_eq_true rfl) ⟨Nat.le_of_ble_eq_true rfl, Nat.le_of_ble_eq_true rfl⟩ rfl (Nat.le_of_ble_eq_true rfl) (fun τ4 hl0 => ?_))
                  have hl4 := hl0.1
                  obtain ⟨T4, k12, k5, k6⟩ := TK_of hl4 hl0.2
                  rw [y5, y6, t313] at k12
                  rw [y5] at k5
                  rw [y6] at k6
                  have p4 := Pz.of p3.P0 hl4
                  have n9 := hl4.1 0 9 (by omega)
                  have n10 := hl4.1 0 10 (by omega)
                  have n12 := hl4.2.1
                  have k22 := p2.2.1
                  refine ok_iconst 79 rfl rfl (by decide) (ok_zret 80 rfl rfl rfl (by first | omega | (simp [up_if]; omega) | (simp [up_if] at *; omega)) ?_)
                  refine ⟨_, rfl, ⟨f4.tr (hl4.1.mono (fun c k q => by simp only [rgF]; omega)), p4, Or.inr ⟨rfl, by omega, by omega, by omega, hw, ?_, fun j hj => ?_⟩⟩, Or.inl ⟨rfl, T4, ?_, by omega⟩⟩
                  · unfold uOk; rw [hl4.1 7 _ (by omega), hl4.1 6 _ (by omega)]; exact u3
                  · rw [hl4.1 7 _ (by omega), hl4.1 6 _ (by omega)]; exact o3 j hj
                  · have z6 : τ4 6 = uf (σ 6) (σ 0 18 * 8 + k) a := by rw [← x6]; funext j; exact hl4.1 6 j (by omega)
                    have z7 : τ4 7 = uf (σ 7) (σ 0 18 * 8 + k) (τ2 0 14) := by rw [← x7]; funext j; exact hl4.1 7 j (by omega)
                    have ru := rd_up z6 z7
                    have f5 : fr rgF σ τ4 := f4.tr (hl4.1.mono (fun c k q => by simp only [rgF]; omega))
                    unfold PB
                    rw [hP, k5, k6, k12, f5 0 18 (by simp [rgF]), f5 0 19 (by simp [rgF]), ru.1, ru.2]
                    exact PR_sk sk_id
                · refine ok_aload_n 67 rfl rfl rfl (ok_iconst 68 rfl rfl (by decide) (ok_callVI (M' := M_Mo_fails) (as := [_]) 69 rfl rfl ml_X12_164 (t_Mo_fails b2) rfl rfl (Nat.le_of_ble_eq_true rfl) ⟨Nat.le_of_ble_eq_true rfl, Nat.le_of_ble_eq_true rfl⟩ rfl (Nat.le_of_ble_eq_true rfl) (fun σ' z2 hz2 => ?_)))
                  have hq := hfail τ2 σ' z2 2 f3 p2 (by decide) (by rw [D3 (by omega)]) (by rw [D3 (by omega), j12]) hz2
                  refine ok_zret 70 rfl rfl rfl (by have := hz2.1; omega) ?_
                  exact ⟨_, rfl, hq⟩
              · refine ok_aload_n 60 rfl rfl rfl (ok_iconst 61 rfl rfl (by decide) (ok_callVI (M' := M_Mo_fails) (as := [_]) 62 rfl rfl ml_X12_164 (t_Mo_fails b2) rfl rfl (Nat.le_of_ble_eq_true rfl) ⟨Nat.le_of_ble_eq_true rfl, Nat.le_of_ble_eq_true rfl⟩ rfl (Nat.le_of_ble_eq_true rfl) (fun σ' z2 hz2 => ?_)))
                have hq := hfail τ2 σ' z2 1 f3 p2 (by decide) (by rw [D1 (nn_of hz h104)]) (by rw [D1 (nn_of hz h104), j12]) hz2
                refine ok_zret 63 rfl rfl rfl (by have := hz2.1; omega) ?_
                exact ⟨_, rfl, hq⟩
            · refine ok_iconst 53 rfl rfl (by decide) (ok_zret 54 rfl rfl rfl (by first | omega | (simp [up_if]; omega) | (simp [up_if] at *; omega)) ?_)
              refine ⟨_, rfl, ⟨f2, p1, Or.inr ⟨rfl, by omega, by omega, by omega, hw, ?_, fun j hj => ?_⟩⟩, N1 (by omega)⟩
              · unfold uOk; rw [l7, l6]; exact u1
              · rw [l7, l6]; exact o1 j hj
        · refine ok_aload_n 21 rfl rfl rfl (ok_iconst 22 rfl rfl (by decide) (ok_callVI (M' := M_Mo_fails) (as := [_]) 23 rfl rfl ml_X12_164 (t_Mo_fails hb0) rfl rfl (Nat.le_of_ble_eq_true rfl) ⟨Nat.le_of_ble_eq_true rfl, Nat.le_of_ble_eq_true rfl⟩ rfl (Nat.le_of_ble_eq_true rfl) (fun σ' z2 hz2 => ?_)))
          have hq := hfail σ σ' z2 4 fr.rf h (by decide) (by rw [P4 (by omega) (by omega) (by omega)]) (by rw [P4 (by omega) (by omega) (by omega)]) hz2
          refine ok_zret 24 rfl rfl rfl (by have := hz2.1; omega) ?_
          exact ⟨_, rfl, hq⟩
    · refine ok_aload_n 10 rfl rfl rfl (ok_iconst 11 rfl rfl (by decide) (ok_callVI (M' := M_Mo_fails) (as := [_]) 12 rfl rfl ml_X12_164 (t_Mo_fails hb0) rfl rfl (Nat.le_of_ble_eq_true rfl) ⟨Nat.le_of_ble_eq_true rfl, Nat.le_of_ble_eq_true rfl⟩ rfl (Nat.le_of_ble_eq_true rfl) (fun σ' z2 hz2 => ?_)))
      have hq := hfail σ σ' z2 3 fr.rf h (by decide) (by rw [P3 (by omega)]) (by rw [P3 (by omega)]) hz2
      refine ok_zret 13 rfl rfl rfl (by have := hz2.1; omega) ?_
      exact ⟨_, rfl, hq⟩
  · refine ok_aload_n 3 rfl rfl rfl (ok_iconst 4 rfl rfl (by decide) (ok_callVI (M' := M_Mo_fails) (as := [_]) 5 rfl rfl ml_X12_164 (t_Mo_fails hb0) rfl rfl (Nat.le_of_ble_eq_true rfl) ⟨Nat.le_of_ble_eq_true rfl, Nat.le_of_ble_eq_true rfl⟩ rfl (Nat.le_of_ble_eq_true rfl) (fun σ' z2 hz2 => ?_)))
    have hq := hfail σ σ' z2 1 fr.rf h (by decide) (by rw [P1 (nn_of hz h4)]) (by rw [P1 (nn_of hz h4)]) hz2
    refine ok_zret 6 rfl rfl rfl (by have := hz2.1; omega) ?_
    exact ⟨_, rfl, hq⟩
